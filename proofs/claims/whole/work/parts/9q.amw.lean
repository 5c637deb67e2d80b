/-! WHAT HOLDS of a host's memory between calls, as far as a round needs it -/
def am_W : am_T → Prop := fun (S, K, O, _, G, _, _, _) => (∀ a, a < 8 → S a ≤ 4) ∧ (∀ a, a < 8 → S a ≠ 0 → ag_wf a (G a)) ∧ (∀ a, a < 4 → S a = 1 → (G a).1 7 = 0 → S (a + 4) = 0 ∧ K (a + 4) = -1 ∧ O (a + 4) = -1)
def am_wfs : am_T → Prop := fun (S, _, _, _, G, _, _, _) => (∀ a, a < 8 → S a ≤ 4) ∧ (∀ a, a < 8 → S a ≠ 0 → ag_wf a (G a))
theorem wfs_I {m0 m : am_T} {k : Nat} (h : am_I m0 m k) : am_wfs m := by
  obtain ⟨S0, K0, O0, T0, G0, H0, V0, D0⟩ := m0
  obtain ⟨S, K, O, T, G, H, V, D⟩ := m
  exact ⟨h.1, h.2.1⟩
theorem amI_W {m : am_T} (h : am_W m) : am_I m m 0 := by
  obtain ⟨S, K, O, T, G, H, V, D⟩ := m
  obtain ⟨h1, h2, h3⟩ := h
  exact ⟨h1, h2, fun a _ _ hs => ⟨hs, rfl⟩, fun a _ ha hs hz => h3 a ha hs hz⟩
theorem amW_one {m : am_T} {k he : Nat} {sc : Nat → List Nat} {tbl : Nat → Int32} (hk : k < 8) (hsb : ∀ q, q < 4 → ∀ i v : Nat, (sc q)[i]? = some v → v < 256) (hsl : ∀ q, q < 4 → (sc q).length ≤ 48) (hS : m.1 k = 1) (hf : 1 ≤ (m.2.2.2.2.1 k).1 3) (hw : am_wfs (am_one sc tbl he k m)) (h : am_W m) : am_W (am_one sc tbl he k m) := by
  obtain ⟨S, K, O, T, G, H, V, D⟩ := m
  obtain ⟨h1, h2, h3⟩ := h
  have hS : S k = 1 := hS
  have hf : 1 ≤ (G k).1 3 := hf
  have wk := h2 k hk (by omega)
  have hp := wk.2.2.2.1
  have sw := step_wf (he := he) (tbl := tbl) wk hf (hsb _ hp) (hsl _ hp)
  have kw := kid_wf (he := he) (tbl := tbl) wk hf (hsb _ hp) (hsl _ hp)
  revert hw
  show am_wfs (am_turn k ((G k).1 5) (ag_kidOf (G k) (ag_step (sc ((G k).1 1)) tbl he (G k)).2.1.toInt.toNat) (ag_step (sc ((G k).1 1)) tbl he (G k)) (S, K, O, T, G, H, V, D)) → am_W (am_turn k ((G k).1 5) (ag_kidOf (G k) (ag_step (sc ((G k).1 1)) tbl he (G k)).2.1.toInt.toNat) (ag_step (sc ((G k).1 1)) tbl he (G k)) (S, K, O, T, G, H, V, D))
  generalize ag_step (sc ((G k).1 1)) tbl he (G k) = st at sw kw ⊢
  obtain ⟨ak, av, P⟩ := st
  obtain ⟨-, s2, -, -, -, s6, -⟩ := sw
  have s2 : ak ≤ 5 := s2
  intro hw
  have base : ∀ (S' : Nat → Nat) (T' : Nat → Int32) (H' : Nat → Int32) (V' : Nat → Nat → Int32) (D' : Nat → Nat), (∀ a, a ≠ k → S' a = S a) → ak ≠ 3 → am_wfs (S', K, O, T', va_up G k P, H', V', D') → am_W (S', K, O, T', va_up G k P, H', V', D') := by
    intro S' T' H' V' D' q1 q3 q4
    refine ⟨q4.1, q4.2, fun a ha hs hz => ?_⟩
    have hs : S' a = 1 := hs
    by_cases g : a = k
    · subst g
      have hz : (va_up G a P a).1 7 = 0 := hz
      rw [fm_upS] at hz
      have s6 : P.1 7 = if ak = 3 then 1 else (G a).1 7 := s6
      rw [if_neg q3] at s6
      rw [q1 (a + 4) (by omega)]
      exact h3 a ha hS (by rw [← s6]; exact hz)
    · have hz : (va_up G k P a).1 7 = 0 := hz
      rw [fm_upN g] at hz
      rw [q1 a g] at hs
      have h4 := h3 a ha hs hz
      have g2 : a + 4 ≠ k := fun e => by
        have := h4.1
        rw [e, hS] at this
        cases this
      rw [q1 (a + 4) g2]
      exact h4
  rcases (show ak = 0 ∨ ak = 1 ∨ ak = 2 ∨ ak = 3 ∨ ak = 4 ∨ ak = 5 by omega) with rfl | rfl | rfl | rfl | rfl | rfl
  · exact base S T H V D (fun _ _ => rfl) (by decide) hw
  · exact base S T _ _ _ (fun _ _ => rfl) (by decide) hw
  · exact base _ _ H V D (fun a g => fm_upN g) (by decide) hw
  · refine ⟨hw.1, hw.2, fun a ha hs hz => ?_⟩
    have hs : va_up S (k + 4) 1 a = 1 := hs
    have hz : (va_up (va_up G k P) (k + 4) (ag_kidOf (G k) av.toInt.toNat) a).1 7 = 0 := hz
    rw [fm_upN (show a ≠ k + 4 by omega)] at hs hz
    by_cases g : a = k
    · subst g
      rw [fm_upS] at hz
      have s6 : P.1 7 = 1 := s6
      rw [s6] at hz
      cases hz
    · rw [fm_upN g] at hz
      show va_up S (k + 4) 1 (a + 4) = 0 ∧ va_up K (k + 4) 0 (a + 4) = -1 ∧ va_up O (k + 4) (-1) (a + 4) = -1
      rw [fm_upN (show a + 4 ≠ k + 4 by omega), fm_upN (show a + 4 ≠ k + 4 by omega), fm_upN (show a + 4 ≠ k + 4 by omega)]
      exact h3 a ha hs hz
  · exact base _ T H V D (fun a g => fm_upN g) (by decide) hw
  · exact base _ T H V D (fun a g => fm_upN g) (by decide) hw
theorem amW_run {m0 : am_T} {he : Nat} {sc : Nat → List Nat} {tbl : Nat → Int32} (hsb : ∀ q, q < 4 → ∀ i v : Nat, (sc q)[i]? = some v → v < 256) (hsl : ∀ q, q < 4 → (sc q).length ≤ 48) (h : am_W m0) : ∀ k, k ≤ 8 → am_W (am_run sc tbl he (am_on m0) k m0) ∧ am_I m0 (am_run sc tbl he (am_on m0) k m0) k
  | 0, _ => ⟨h, amI_W h⟩
  | k + 1, hk => by
    obtain ⟨i1, i2⟩ := amW_run (he := he) (tbl := tbl) hsb hsl h k (by omega)
    cases ht : am_on m0 k with
    | false =>
      rw [(run_no ht).1]
      exact ⟨i1, amI_next i2⟩
    | true =>
      rw [(run_yes ht).1]
      have i3 := amI_one (he := he) (tbl := tbl) (show k < 8 by omega) hsb hsl ht i2
      generalize am_run sc tbl he (am_on m0) k m0 = m at i1 i2 i3
      have hm : m.1 k = 1 ∧ 1 ≤ (m.2.2.2.2.1 k).1 3 := by
        obtain ⟨S0, K0, O0, T0, G0, H0, V0, D0⟩ := m0
        obtain ⟨S, K, O, T, G, H, V, D⟩ := m
        have ht : (decide (S0 k = 1) && decide (1 ≤ (G0 k).1 3) && decide ((G0 k).1 6 = 0)) = true := ht
        rw [Bool.and_eq_true, Bool.and_eq_true, decide_eq_true_eq, decide_eq_true_eq, decide_eq_true_eq] at ht
        obtain ⟨e1, e2⟩ := i2.2.2.1 k (Nat.le_refl k) (by omega) ht.1.1
        refine ⟨e1, ?_⟩
        show 1 ≤ (G k).1 3
        rw [e2]
        exact ht.1.2
      exact ⟨amW_one (by omega) hsb hsl hm.1 hm.2 (wfs_I i3) i1, i3⟩
