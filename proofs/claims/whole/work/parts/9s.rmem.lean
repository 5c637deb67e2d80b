/-! THE REFERENCE'S MEMORY at b0 (its eight agents b0 .. b0 + 7) holds a host's memory -/
def hr_M (M : fm_M) (b0 : Nat) : am_T → Prop := fun (S, K, O, T, G, _, V, D) =>
  (∀ a, a < 8 → M.1 597 (b0 + a) = nI (S a)) ∧ (∀ a, a < 8 → S a = 2 → M.1 598 (b0 + a) = T a) ∧ (∀ a, a < 8 → M.1 599 (b0 + a) = K a) ∧ (∀ a, a < 8 → M.1 600 (b0 + a) = O a) ∧ (∀ a, a < 8 → M.1 601 (b0 + a) = T a) ∧ (∀ a, a < 8 → M.1 602 (b0 + a) = nI (D a)) ∧ (∀ a i, a < 8 → i < 16 → M.1 603 (16 * (b0 + a) + i) = V a i) ∧ (∀ a, a < 8 → M.1 611 (b0 + a) = 0 ∨ M.1 611 (b0 + a) = 1) ∧ (∀ a, a < 8 → S a ≠ 0 → ∃ g, hr_G M (b0 + a) F_m (G a) g)
theorem hrG_W {gi r : Nat} {M M' : fm_M} {F : Nat → Prop} {A : ag_T} {g : Nat → Nat} (ok : ag_ok A) (hne : r ≠ gi) (h : hr_G M r F A g) (f : fr_W gi M M') : hr_G M' r F A g :=
  hrG_at1 ok h (fun k _ _ => f.2.1 _ _ (by omega) (by omega) (by omega) (by omega)) (fun k hk => f.2.2 _ _ (by omega) (by omega) (by decide) (by decide)) (fun k hk => ⟨f.2.2 _ _ (by omega) (by omega) (by decide) (by decide), f.2.2 _ _ (by omega) (by omega) (by decide) (by decide)⟩)
theorem hrG_W2 {gi gc r : Nat} {M M' : fm_M} {F : Nat → Prop} {A : ag_T} {g : Nat → Nat} (ok : ag_ok A) (hne : r ≠ gi) (hnc : r ≠ gc) (h : hr_G M r F A g) (f : fr_W2 gi gc M M') : hr_G M' r F A g :=
  hrG_at1 ok h (fun k _ _ => f.2.1 _ _ (by omega) (by omega) (by omega) (by omega)) (fun k hk => f.2.2 _ _ (by omega) (by omega) (by decide) (by decide)) (fun k hk => ⟨f.2.2 _ _ (by omega) (by omega) (by decide) (by decide), f.2.2 _ _ (by omega) (by omega) (by decide) (by decide)⟩)
/-- the puts beside the agents, one by one -/
theorem hrM_o {b0 o j : Nat} {v : Int32} {M : fm_M} {m : am_T} (ho : o < 597 ∨ 618 < o) (h : hr_M M b0 m) : hr_M (fm_put1 M o j v) b0 m := by
  obtain ⟨S, K, O, T, G, H, V, D⟩ := m
  obtain ⟨h1, h2, h3, h4, h5, h6, h7, h8, h9⟩ := h
  refine ⟨fun a ha => (p1_other (by omega)).trans (h1 a ha), fun a ha hs => (p1_other (by omega)).trans (h2 a ha hs), fun a ha => (p1_other (by omega)).trans (h3 a ha), fun a ha => (p1_other (by omega)).trans (h4 a ha), fun a ha => (p1_other (by omega)).trans (h5 a ha), fun a ha => (p1_other (by omega)).trans (h6 a ha), fun a i ha hi => (p1_other (by omega)).trans (h7 a i ha hi), fun a ha => ?_, fun a ha hs => ?_⟩
  · rw [p1_other (by omega)]
    exact h8 a ha
  · obtain ⟨g, hg⟩ := h9 a ha hs
    exact ⟨g, hrG_o1 (by omega) hg⟩
theorem hrM_say {b0 k sd : Nat} {v : Int32} {M : fm_M} {S : Nat → Nat} {K O T : Nat → Int32} {G : Nat → ag_T} {H : Nat → Int32} {V : Nat → Nat → Int32} {D : Nat → Nat} {H' : Nat → Int32} (hk : k < 8) (hsd : sd < 16) (h : hr_M M b0 (S, K, O, T, G, H, V, D)) : hr_M (fm_put1 (fm_put1 M 603 (16 * (b0 + k) + sd) v) 602 (b0 + k) (nI (sd + 1))) b0 (S, K, O, T, G, H', va_up V k (va_up (V k) sd v), va_up D k (sd + 1)) := by
  obtain ⟨h1, h2, h3, h4, h5, h6, h7, h8, h9⟩ := h
  refine ⟨fun a ha => (p1_other (by decide)).trans ((p1_other (by decide)).trans (h1 a ha)), fun a ha hs => (p1_other (by decide)).trans ((p1_other (by decide)).trans (h2 a ha hs)), fun a ha => (p1_other (by decide)).trans ((p1_other (by decide)).trans (h3 a ha)), fun a ha => (p1_other (by decide)).trans ((p1_other (by decide)).trans (h4 a ha)), fun a ha => (p1_other (by decide)).trans ((p1_other (by decide)).trans (h5 a ha)), fun a ha => ?_, fun a i ha hi => ?_, fun a ha => ?_, fun a ha hs => ?_⟩
  · by_cases g : a = k
    · subst g
      rw [p1_same, fm_upS]
    · rw [p1_at (by omega), p1_other (by decide), fm_upN g]
      exact h6 a ha
  · rw [p1_other (by decide)]
    by_cases g : a = k
    · subst g
      rw [fm_upS]
      by_cases g2 : i = sd
      · subst g2
        rw [p1_same, fm_upS]
      · rw [p1_at (by omega), fm_upN g2]
        exact h7 a i ha hi
    · rw [p1_at (by omega), fm_upN g]
      exact h7 a i ha hi
  · rw [p1_other (by decide), p1_other (by decide)]
    exact h8 a ha
  · obtain ⟨g, hg⟩ := h9 a ha hs
    exact ⟨g, hrG_o1 (by omega) (hrG_o1 (by omega) hg)⟩
theorem hrM_slot {b0 k v : Nat} {M : fm_M} {S : Nat → Nat} {K O T : Nat → Int32} {G : Nat → ag_T} {H : Nat → Int32} {V : Nat → Nat → Int32} {D : Nat → Nat} (hv : v ≠ 2) (hS : S k ≠ 0) (hk : k < 8) (h : hr_M M b0 (S, K, O, T, G, H, V, D)) : hr_M (fm_put1 M 597 (b0 + k) (nI v)) b0 (va_up S k v, K, O, T, G, H, V, D) := by
  obtain ⟨h1, h2, h3, h4, h5, h6, h7, h8, h9⟩ := h
  refine ⟨fun a ha => ?_, fun a ha hs => (p1_other (by decide)).trans (h2 a ha ?_), fun a ha => (p1_other (by decide)).trans (h3 a ha), fun a ha => (p1_other (by decide)).trans (h4 a ha), fun a ha => (p1_other (by decide)).trans (h5 a ha), fun a ha => (p1_other (by decide)).trans (h6 a ha), fun a i ha hi => (p1_other (by decide)).trans (h7 a i ha hi), fun a ha => ?_, fun a ha hs => ?_⟩
  · by_cases g : a = k
    · subst g
      rw [p1_same, fm_upS]
    · rw [p1_at (by omega), fm_upN g]
      exact h1 a ha
  · by_cases g : a = k
    · subst g
      rw [fm_upS] at hs
      exact absurd hs hv
    · rwa [fm_upN g] at hs
  · rw [p1_other (by decide)]
    exact h8 a ha
  · obtain ⟨g, hg⟩ := h9 a ha (by
      by_cases g : a = k
      · rw [g]; exact hS
      · rwa [fm_upN g] at hs)
    exact ⟨g, hrG_o1 (by omega) hg⟩
theorem hrM_go {b0 k : Nat} {v : Int32} {M : fm_M} {S : Nat → Nat} {K O T : Nat → Int32} {G : Nat → ag_T} {H : Nat → Int32} {V : Nat → Nat → Int32} {D : Nat → Nat} (hS : S k ≠ 0) (hk : k < 8) (h : hr_M M b0 (S, K, O, T, G, H, V, D)) : hr_M (fm_put1 (fm_put1 (fm_put1 M 597 (b0 + k) (nI 2)) 598 (b0 + k) v) 601 (b0 + k) v) b0 (va_up S k 2, K, O, va_up T k v, G, H, V, D) := by
  obtain ⟨h1, h2, h3, h4, h5, h6, h7, h8, h9⟩ := h
  refine ⟨fun a ha => ?_, fun a ha hs => ?_, fun a ha => (p1_other (by decide)).trans ((p1_other (by decide)).trans ((p1_other (by decide)).trans (h3 a ha))), fun a ha => (p1_other (by decide)).trans ((p1_other (by decide)).trans ((p1_other (by decide)).trans (h4 a ha))), fun a ha => ?_, fun a ha => (p1_other (by decide)).trans ((p1_other (by decide)).trans ((p1_other (by decide)).trans (h6 a ha))), fun a i ha hi => (p1_other (by decide)).trans ((p1_other (by decide)).trans ((p1_other (by decide)).trans (h7 a i ha hi))), fun a ha => ?_, fun a ha hs => ?_⟩
  · rw [p1_other (by decide), p1_other (by decide)]
    by_cases g : a = k
    · subst g
      rw [p1_same, fm_upS]
    · rw [p1_at (by omega), fm_upN g]
      exact h1 a ha
  · rw [p1_other (by decide)]
    by_cases g : a = k
    · subst g
      rw [p1_same, fm_upS]
    · rw [p1_at (by omega), p1_other (by decide), fm_upN g]
      rw [fm_upN g] at hs
      exact h2 a ha hs
  · by_cases g : a = k
    · subst g
      rw [p1_same, fm_upS]
    · rw [p1_at (by omega), p1_other (by decide), p1_other (by decide), fm_upN g]
      exact h5 a ha
  · rw [p1_other (by decide), p1_other (by decide), p1_other (by decide)]
    exact h8 a ha
  · obtain ⟨g, hg⟩ := h9 a ha (by
      by_cases g : a = k
      · rw [g]; exact hS
      · rwa [fm_upN g] at hs)
    exact ⟨g, hrG_o1 (by omega) (hrG_o1 (by omega) (hrG_o1 (by omega) hg))⟩
/-- the agent k alone has changed -/
theorem hrM_W {b0 k : Nat} {M M' : fm_M} {S : Nat → Nat} {K O T : Nat → Int32} {G : Nat → ag_T} {H : Nat → Int32} {V : Nat → Nat → Int32} {D : Nat → Nat} {A : ag_T} (hk : k < 8) (hb : 597 ≤ 597) (okG : ∀ a, a < 8 → S a ≠ 0 → ag_ok (G a)) (hA : ∃ g, hr_G M' (b0 + k) F_m A g) (h7 : A.1 7 ≤ 1) (f : fr_W (b0 + k) M M') (h : hr_M M b0 (S, K, O, T, G, H, V, D)) : hr_M M' b0 (S, K, O, T, va_up G k A, H, V, D) := by
  obtain ⟨h1, h2, h3, h4, h5, h6, h7', h8, h9⟩ := h
  have e := fun q j (h1 : q < 605) (h2 : 586 < q) => f.2.1 q j (by omega) (by omega) (by omega) (by omega)
  refine ⟨fun a ha => (e _ _ (by decide) (by decide)).trans (h1 a ha), fun a ha hs => (e _ _ (by decide) (by decide)).trans (h2 a ha hs), fun a ha => (e _ _ (by decide) (by decide)).trans (h3 a ha), fun a ha => (e _ _ (by decide) (by decide)).trans (h4 a ha), fun a ha => (e _ _ (by decide) (by decide)).trans (h5 a ha), fun a ha => (e _ _ (by decide) (by decide)).trans (h6 a ha), fun a i ha hi => (e _ _ (by decide) (by decide)).trans (h7' a i ha hi), fun a ha => ?_, fun a ha hs => ?_⟩
  · by_cases g : a = k
    · subst g
      obtain ⟨g, hg⟩ := hA
      have q := hg.1 7 (by decide) (by decide) trivial
      rcases (show A.1 7 = 0 ∨ A.1 7 = 1 by omega) with z | z
      · exact Or.inl (q.trans (congrArg nI z))
      · exact Or.inr (q.trans (congrArg nI z))
    · rw [f.2.1 611 (b0 + a) (by omega) (by decide) (by decide) (by omega)]
      exact h8 a ha
  · by_cases g : a = k
    · subst g
      rw [fm_upS]
      exact hA
    · rw [fm_upN g]
      obtain ⟨g2, hg⟩ := h9 a ha hs
      exact ⟨g2, hrG_W (okG a ha hs) (by omega) hg f⟩
