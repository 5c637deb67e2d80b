/-! A TICK keeps what holds of a memory -/
theorem tick_wf {a : Nat} {A : ag_T} (w : ag_wf a A) : ag_wf a (ag_tick A) := by
  obtain ⟨w1, w2, w3, w4, w5, w6, w7, w8, w9⟩ := w
  have u : ∀ k, k ≠ 6 → (ag_tick A).1 k = A.1 k := fun k hk => (fm_upN hk : va_up A.1 6 (A.1 6 - 1) k = A.1 k)
  have u6 : (ag_tick A).1 6 = A.1 6 - 1 := (fm_upS : va_up A.1 6 (A.1 6 - 1) 6 = A.1 6 - 1)
  have e : (ag_can A).2 = A.2 := by rw [w2]
  refine ⟨w1, ?_, (u 0 (by decide)).trans w3, ?_, ?_, ?_, ?_, ?_, ?_⟩
  · show ((ag_tick A).1, (ag_can A).2) = _
    rw [e]
    rfl
  · rw [u 1 (by decide)]; exact w4
  · rw [u 2 (by decide)]; exact w5
  · rw [u 4 (by decide), u 3 (by decide)]; exact w6
  · rw [u 5 (by decide)]; exact w7
  · rw [u6]; omega
  · rw [u 7 (by decide)]; exact w9
theorem pk_wf {S : Nat → Nat} {G : Nat → ag_T} (h : ∀ a, a < 8 → S a ≠ 0 → ag_wf a (G a)) : ∀ k a, a < 8 → S a ≠ 0 → ag_wf a (pk_G S G k a) ∧ (pk_G S G k a).1 7 = (G a).1 7
  | 0, a, ha, hs => ⟨h a ha hs, rfl⟩
  | k + 1, a, ha, hs => by
    obtain ⟨i1, i2⟩ := pk_wf h k a ha hs
    by_cases g : S k = 1
    · rw [show pk_G S G (k + 1) = va_up (pk_G S G k) k (ag_tick (pk_G S G k k)) from if_pos g]
      by_cases g2 : a = k
      · subst g2
        rw [fm_upS]
        exact ⟨tick_wf i1, (show va_up (pk_G S G a a).1 6 ((pk_G S G a a).1 6 - 1) 7 = (pk_G S G a a).1 7 from fm_upN (by decide)).trans i2⟩
      · rw [fm_upN g2]
        exact ⟨i1, i2⟩
    · rw [show pk_G S G (k + 1) = pk_G S G k from if_neg g]
      exact ⟨i1, i2⟩
theorem amW_pass {m : am_T} (h : am_W m) : am_W (am_pass m) := by
  obtain ⟨S, K, O, T, G, H, V, D⟩ := m
  obtain ⟨h1, h2, h3⟩ := h
  refine ⟨h1, fun a ha hs => (pk_wf h2 8 a ha hs).1, fun a ha hs hz => h3 a ha hs ?_⟩
  have hs1 : S a = 1 := hs
  exact ((pk_wf h2 8 a (by omega) (by rw [hs1]; decide)).2).symm.trans hz
