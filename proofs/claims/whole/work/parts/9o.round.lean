/-! A ROUND of a host, as a value -/
theorem kid_wf {a he : Nat} {sc : List Nat} {tbl : Nat → Int32} {A : ag_T} (w : ag_wf a A) (hf : 1 ≤ A.1 3) (hsb : ∀ k v : Nat, sc[k]? = some v → v < 256) (hsl : sc.length ≤ 48) (h3 : (ag_step sc tbl he A).1 = 3) : a < 4 ∧ A.1 7 = 0 ∧ ag_wf (a + 4) (ag_kidOf A (ag_step sc tbl he A).2.1.toInt.toNat) := by
  obtain ⟨k1, k2, k3, k4, k5, k6, k7, k8⟩ := kid_eq h3
  have s1 := (step_wf (he := he) (tbl := tbl) w hf hsb hsl).1
  have w0 := w.2.2.1
  have w6 := w.2.2.2.2.2.1
  have hok : ag_ok (ag_kid (va_up (va_up A.1 3 (A.1 3 - 1)) 2 (A.1 2 + 1), A.2.1.take (A.2.1.length - 1), A.2.2) (ag_step sc tbl he A).2.1.toInt.toNat) := ok_kid (ok_take (N := A.1) (A.2.1.length - 1) w.1) (by
    have := w.1.1
    show (A.2.1.take (A.2.1.length - 1)).length < 6
    rw [List.length_take]
    omega)
  have e := (toN_of (v := (ag_step sc tbl he A).2.1) (a := 1) (c := A.1 3 - 1) (lo := 1) (hi := nI (A.1 3 - 1)) rfl (nI_int (by omega)) ⟨k7, k8⟩).2
  refine ⟨by omega, k3, can_ok hok, can_can hok, ?_, ?_, ?_, ?_, ?_, ?_, ?_⟩
  · rw [← k1]
    show va_up (va_up (va_up (va_up (va_up (va_up (ag_step sc tbl he A).2.2.1 0 ((ag_step sc tbl he A).2.2.1 0 + 4)) 3 (ag_step sc tbl he A).2.1.toInt.toNat) 4 0) 5 0) 6 0) 7 0 0 = a + 4
    rw [fm_upN (by decide), fm_upN (by decide), fm_upN (by decide), fm_upN (by decide), fm_upN (by decide), fm_upS, k6, w0]
  · rw [← k1]
    show va_up (va_up (va_up (va_up (va_up (va_up (ag_step sc tbl he A).2.2.1 0 ((ag_step sc tbl he A).2.2.1 0 + 4)) 3 (ag_step sc tbl he A).2.1.toInt.toNat) 4 0) 5 0) 6 0) 7 0 1 < 4
    rw [fm_upN (by decide), fm_upN (by decide), fm_upN (by decide), fm_upN (by decide), fm_upN (by decide), fm_upN (by decide)]
    exact s1.2.2.2.1
  · rw [← k1]
    show va_up (va_up (va_up (va_up (va_up (va_up (ag_step sc tbl he A).2.2.1 0 ((ag_step sc tbl he A).2.2.1 0 + 4)) 3 (ag_step sc tbl he A).2.1.toInt.toNat) 4 0) 5 0) 6 0) 7 0 2 < 256
    rw [fm_upN (by decide), fm_upN (by decide), fm_upN (by decide), fm_upN (by decide), fm_upN (by decide), fm_upN (by decide)]
    exact s1.2.2.2.2.1
  · rw [← k1]
    show va_up (va_up (va_up (va_up (va_up (va_up (ag_step sc tbl he A).2.2.1 0 ((ag_step sc tbl he A).2.2.1 0 + 4)) 3 (ag_step sc tbl he A).2.1.toInt.toNat) 4 0) 5 0) 6 0) 7 0 4 + va_up (va_up (va_up (va_up (va_up (va_up (ag_step sc tbl he A).2.2.1 0 ((ag_step sc tbl he A).2.2.1 0 + 4)) 3 (ag_step sc tbl he A).2.1.toInt.toNat) 4 0) 5 0) 6 0) 7 0 3 ≤ 200
    rw [fm_upN (by decide), fm_upN (by decide), fm_upN (by decide), fm_upS, fm_upN (by decide), fm_upN (by decide), fm_upN (by decide), fm_upN (by decide), fm_upS]
    omega
  · rw [← k1]
    show va_up (va_up (va_up (va_up (va_up (va_up (ag_step sc tbl he A).2.2.1 0 ((ag_step sc tbl he A).2.2.1 0 + 4)) 3 (ag_step sc tbl he A).2.1.toInt.toNat) 4 0) 5 0) 6 0) 7 0 5 ≤ 16
    rw [fm_upN (by decide), fm_upN (by decide), fm_upS]
    exact Nat.zero_le _
  · rw [← k1]
    show va_up (va_up (va_up (va_up (va_up (va_up (ag_step sc tbl he A).2.2.1 0 ((ag_step sc tbl he A).2.2.1 0 + 4)) 3 (ag_step sc tbl he A).2.1.toInt.toNat) 4 0) 5 0) 6 0) 7 0 6 ≤ 20
    rw [fm_upN (by decide), fm_upS]
    exact Nat.zero_le _
  · rw [← k1]
    show va_up (va_up (va_up (va_up (va_up (va_up (ag_step sc tbl he A).2.2.1 0 ((ag_step sc tbl he A).2.2.1 0 + 4)) 3 (ag_step sc tbl he A).2.1.toInt.toNat) 4 0) 5 0) 6 0) 7 0 7 ≤ 1
    rw [fm_upS]
    exact Nat.zero_le _
def am_on : am_T → Nat → Bool := fun (S, _, _, _, G, _, _, _) a => decide (S a = 1) && decide (1 ≤ (G a).1 3) && decide ((G a).1 6 = 0)
def am_one (sc : Nat → List Nat) (tbl : Nat → Int32) (he a : Nat) : am_T → am_T := fun (S, K, O, T, G, H, V, D) => am_turn a ((G a).1 5) (ag_kidOf (G a) (ag_step (sc ((G a).1 1)) tbl he (G a)).2.1.toInt.toNat) (ag_step (sc ((G a).1 1)) tbl he (G a)) (S, K, O, T, G, H, V, D)
def am_run (sc : Nat → List Nat) (tbl : Nat → Int32) (he : Nat) (tn : Nat → Bool) : Nat → am_T → am_T
  | 0, m => m
  | k + 1, m => if tn k then am_one sc tbl he k (am_run sc tbl he tn k m) else am_run sc tbl he tn k m
def am_cnt (tn : Nat → Bool) : Nat → Nat
  | 0 => 0
  | k + 1 => am_cnt tn k + (if tn k then 1 else 0)
/-- what holds of the memory m that a round which began with m0 has come to, k agents done -/
def am_I : am_T → am_T → Nat → Prop := fun (S0, _, _, _, G0, _, _, _) (S, K, O, _, G, _, _, _) k =>
  (∀ a, a < 8 → S a ≤ 4) ∧ (∀ a, a < 8 → S a ≠ 0 → ag_wf a (G a)) ∧ (∀ a, k ≤ a → a < 8 → S0 a = 1 → S a = 1 ∧ G a = G0 a) ∧ (∀ a, k ≤ a → a < 4 → S0 a = 1 → (G0 a).1 7 = 0 → S (a + 4) = 0 ∧ K (a + 4) = -1 ∧ O (a + 4) = -1)
theorem amI_next {m0 m : am_T} {k : Nat} (h : am_I m0 m k) : am_I m0 m (k + 1) := by
  obtain ⟨S0, K0, O0, T0, G0, H0, V0, D0⟩ := m0
  obtain ⟨S, K, O, T, G, H, V, D⟩ := m
  obtain ⟨h1, h2, h3, h4⟩ := h
  exact ⟨h1, h2, fun a q => h3 a (by omega), fun a q => h4 a (by omega)⟩
theorem amI_one {m0 m : am_T} {k he : Nat} {sc : Nat → List Nat} {tbl : Nat → Int32} (hk : k < 8) (hsb : ∀ q, q < 4 → ∀ i v : Nat, (sc q)[i]? = some v → v < 256) (hsl : ∀ q, q < 4 → (sc q).length ≤ 48) (ht : am_on m0 k = true) (h : am_I m0 m k) : am_I m0 (am_one sc tbl he k m) (k + 1) := by
  obtain ⟨S0, K0, O0, T0, G0, H0, V0, D0⟩ := m0
  obtain ⟨S, K, O, T, G, H, V, D⟩ := m
  obtain ⟨h1, h2, h3, h4⟩ := h
  have ht : (decide (S0 k = 1) && decide (1 ≤ (G0 k).1 3) && decide ((G0 k).1 6 = 0)) = true := ht
  rw [Bool.and_eq_true, Bool.and_eq_true, decide_eq_true_eq, decide_eq_true_eq, decide_eq_true_eq] at ht
  obtain ⟨⟨t1, t2⟩, t3⟩ := ht
  obtain ⟨e1, e2⟩ := h3 k (Nat.le_refl k) hk t1
  have wk := h2 k hk (by omega)
  have hp := wk.2.2.2.1
  have hf : 1 ≤ (G k).1 3 := by rw [e2]; exact t2
  have sw := step_wf (he := he) (tbl := tbl) wk hf (hsb _ hp) (hsl _ hp)
  have kw := kid_wf (he := he) (tbl := tbl) wk hf (hsb _ hp) (hsl _ hp)
  show am_I (S0, K0, O0, T0, G0, H0, V0, D0) (am_turn k ((G k).1 5) (ag_kidOf (G k) (ag_step (sc ((G k).1 1)) tbl he (G k)).2.1.toInt.toNat) (ag_step (sc ((G k).1 1)) tbl he (G k)) (S, K, O, T, G, H, V, D)) (k + 1)
  generalize ag_step (sc ((G k).1 1)) tbl he (G k) = st at sw kw ⊢
  obtain ⟨ak, av, P⟩ := st
  obtain ⟨s1, s2, -⟩ := sw
  have s2 : ak ≤ 5 := s2
  have base : ∀ (S' : Nat → Nat) (T' : Nat → Int32) (H' : Nat → Int32) (V' : Nat → Nat → Int32) (D' : Nat → Nat), (∀ a, a ≠ k → S' a = S a) → S' k ≤ 4 → am_I (S0, K0, O0, T0, G0, H0, V0, D0) (S', K, O, T', va_up G k P, H', V', D') (k + 1) := by
    intro S' T' H' V' D' q1 q2
    refine ⟨fun a ha => ?_, fun a ha hs => ?_, fun a q ha hs => ?_, fun a q ha hs hz => ?_⟩
    · by_cases g : a = k
      · rw [g]; exact q2
      · rw [q1 a g]; exact h1 a ha
    · by_cases g : a = k
      · rw [g, fm_upS]; exact s1
      · rw [fm_upN g]; exact h2 a ha (by rw [← q1 a g]; exact hs)
    · rw [q1 a (by omega), fm_upN (show a ≠ k by omega)]
      exact h3 a (by omega) ha hs
    · rw [q1 (a + 4) (by omega)]
      exact h4 a (by omega) ha hs hz
  have up : ∀ v, v ≤ 4 → (∀ a, a ≠ k → va_up S k v a = S a) ∧ va_up S k v k ≤ 4 := fun v hv => ⟨fun a g => fm_upN g, by rw [fm_upS]; exact hv⟩
  rcases (show ak = 0 ∨ ak = 1 ∨ ak = 2 ∨ ak = 3 ∨ ak = 4 ∨ ak = 5 by omega) with rfl | rfl | rfl | rfl | rfl | rfl
  · exact base S T H V D (fun _ _ => rfl) (h1 k hk)
  · exact base S T _ _ _ (fun _ _ => rfl) (h1 k hk)
  · exact base _ _ H V D (up 2 (by decide)).1 (up 2 (by decide)).2
  · obtain ⟨k4, c7, kwf⟩ := kw rfl
    obtain ⟨z1, z2, z3⟩ := h4 k (Nat.le_refl k) k4 t1 (by rw [← e2]; exact c7)
    refine ⟨fun a ha => ?_, fun a ha hs => ?_, fun a q ha hs => ?_, fun a q ha hs hz => ?_⟩
    · show va_up S (k + 4) 1 a ≤ 4
      by_cases g : a = k + 4
      · rw [g, fm_upS]; decide
      · rw [fm_upN g]; exact h1 a ha
    · show ag_wf a (va_up (va_up G k P) (k + 4) (ag_kidOf (G k) av.toInt.toNat) a)
      have hs : va_up S (k + 4) 1 a ≠ 0 := hs
      by_cases g : a = k + 4
      · rw [g, fm_upS]; exact kwf
      · rw [fm_upN g] at hs ⊢
        by_cases g2 : a = k
        · rw [g2, fm_upS]; exact s1
        · rw [fm_upN g2]; exact h2 a ha hs
    · have g : a ≠ k + 4 := fun e => by
        have := (h3 a (by omega) ha hs).1
        rw [e, z1] at this
        cases this
      show va_up S (k + 4) 1 a = 1 ∧ va_up (va_up G k P) (k + 4) (ag_kidOf (G k) av.toInt.toNat) a = G0 a
      rw [fm_upN g, fm_upN g, fm_upN (show a ≠ k by omega)]
      exact h3 a (by omega) ha hs
    · show va_up S (k + 4) 1 (a + 4) = 0 ∧ va_up K (k + 4) 0 (a + 4) = -1 ∧ va_up O (k + 4) (-1) (a + 4) = -1
      rw [fm_upN (show a + 4 ≠ k + 4 by omega), fm_upN (show a + 4 ≠ k + 4 by omega), fm_upN (show a + 4 ≠ k + 4 by omega)]
      exact h4 a (by omega) ha hs hz
  · exact base _ T H V D (up 3 (by decide)).1 (up 3 (by decide)).2
  · exact base _ T H V D (up 4 (by decide)).1 (up 4 (by decide)).2
