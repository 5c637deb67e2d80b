/-! WHAT AN INSTRUCTION LEAVES of the numbers of an agent -/
theorem do_num {c y he : Nat} {tbl : Nat → Int32} {N : Nat → Nat} {s : List bf_V} {p : List (bf_V × bf_V)} {lo up : bf_V} (hc : c < 20) : ((ag_do c y tbl he N s p lo up).2.2.1 0 = N 0 ∧ (ag_do c y tbl he N s p lo up).2.2.1 1 = N 1 ∧ ((ag_do c y tbl he N s p lo up).2.2.1 2 = N 2 ∨ (ag_do c y tbl he N s p lo up).2.2.1 2 = y) ∧ (ag_do c y tbl he N s p lo up).2.2.1 3 ≤ N 3 ∧ ((ag_do c y tbl he N s p lo up).2.2.1 4 = if (ag_do c y tbl he N s p lo up).1 = 2 then N 4 + 1 else N 4) ∧ ((ag_do c y tbl he N s p lo up).2.2.1 5 = if (ag_do c y tbl he N s p lo up).1 = 1 then N 5 + 1 else N 5) ∧ ((ag_do c y tbl he N s p lo up).2.2.1 6 = N 6 ∨ (c = 13 ∧ (ag_do c y tbl he N s p lo up).2.2.1 6 = (ag_int up).toInt.toNat)) ∧ ((ag_do c y tbl he N s p lo up).2.2.1 7 = if (ag_do c y tbl he N s p lo up).1 = 3 then 1 else N 7)) ∧ ((ag_do c y tbl he N s p lo up).1 = 1 → c = 8) ∧ ((ag_do c y tbl he N s p lo up).1 = 2 → c = 9 ∧ (ag_do c y tbl he N s p lo up).2.1 = ag_int up ∧ ag_int up ≠ nI he) := by
  rcases (show c = 0 ∨ c = 1 ∨ c = 2 ∨ c = 3 ∨ c = 4 ∨ c = 5 ∨ c = 6 ∨ c = 7 ∨ c = 8 ∨ c = 9 ∨ c = 10 ∨ c = 11 ∨ c = 12 ∨ c = 13 ∨ c = 14 ∨ c = 15 ∨ c = 16 ∨ c = 17 ∨ c = 18 ∨ c = 19 by omega) with rfl | rfl | rfl | rfl | rfl | rfl | rfl | rfl | rfl | rfl | rfl | rfl | rfl | rfl | rfl | rfl | rfl | rfl | rfl | rfl
  · simp [ag_do, va_up]
  · simp [ag_do, va_up]
  · simp [ag_do, va_up]
  · simp [ag_do, va_up]
  · simp [ag_do, va_up]
  · simp [ag_do, va_up]
  · simp [ag_do, va_up]
  · simp [ag_do, va_up]
  · simp [ag_do, va_up]
  · by_cases g : ag_int up = nI he <;> simp [ag_do, va_up, g]
  · simp [ag_do, va_up]
  · by_cases g : ag_int up = 0 <;> simp [ag_do, va_up, g]
  · rw [do_12]
    by_cases g : 4 ≤ N 0 ∨ N 7 ≠ 0 ∨ ag_int up < 1 ∨ nI (N 3) < ag_int up
    · rw [if_pos g]
      simp
    · rw [if_neg g]
      simp [va_up]
  · simp [ag_do, va_up]
  · simp [ag_do, va_up]
  · simp [ag_do, va_up]
  · simp [ag_do, va_up]
  · simp [ag_do, va_up]
  · simp [ag_do, va_up]
  · simp [ag_do, va_up]
def ag_wf (a : Nat) (A : ag_T) : Prop := ag_ok A ∧ ag_can A = A ∧ A.1 0 = a ∧ A.1 1 < 4 ∧ A.1 2 < 256 ∧ A.1 4 + A.1 3 ≤ 200 ∧ A.1 5 ≤ 16 ∧ A.1 6 ≤ 20 ∧ A.1 7 ≤ 1
/-- of a well formed agent an instruction makes a well formed one -/
theorem step_wf {a he : Nat} {sc : List Nat} {tbl : Nat → Int32} {A : ag_T} (w : ag_wf a A) (hf : 1 ≤ A.1 3) (hsb : ∀ k v : Nat, sc[k]? = some v → v < 256) (hsl : sc.length ≤ 48) : ag_wf a (ag_step sc tbl he A).2.2 ∧ (ag_step sc tbl he A).1 ≤ 5 ∧ ((ag_step sc tbl he A).2.2.1 5 = if (ag_step sc tbl he A).1 = 1 then A.1 5 + 1 else A.1 5) ∧ ((ag_step sc tbl he A).2.2.1 4 = if (ag_step sc tbl he A).1 = 2 then A.1 4 + 1 else A.1 4) ∧ (ag_step sc tbl he A).2.2.1 3 < A.1 3 ∧ ((ag_step sc tbl he A).2.2.1 7 = if (ag_step sc tbl he A).1 = 3 then 1 else A.1 7) ∧ ((ag_step sc tbl he A).1 = 2 → ∃ d, d < 4 ∧ nI d ≠ nI he ∧ (ag_step sc tbl he A).2.1 = nI d) := by
  obtain ⟨N, s0, p⟩ := A
  obtain ⟨w1, w2, w3, w4, w5, w6, w7, w8, w9⟩ := w
  have w3 : N 0 = a := w3
  have w4 : N 1 < 4 := w4
  have w5 : N 2 < 256 := w5
  have w6 : N 4 + N 3 ≤ 200 := w6
  have w7 : N 5 ≤ 16 := w7
  have w8 : N 6 ≤ 20 := w8
  have w9 : N 7 ≤ 1 := w9
  have hf : 1 ≤ N 3 := hf
  have u : ∀ k, k ≠ 3 → (va_up N 3 (N 3 - 1)) k = N k := fun k hk => fm_upN hk
  have u3 : (va_up N 3 (N 3 - 1)) 3 = N 3 - 1 := fm_upS
  have FAIL : ag_wf a ((va_up N 3 (N 3 - 1)), s0, p) := by
    have e : (ag_can (N, s0, p)).2 = (s0, p) := by rw [w2]
    refine ⟨w1, ?_, (u 0 (by decide)).trans w3, ?_, ?_, ?_, ?_, ?_, ?_⟩
    · show ((va_up N 3 (N 3 - 1)), (ag_can (N, s0, p)).2) = _
      rw [e]
    · show (va_up N 3 (N 3 - 1)) 1 < 4; rw [u 1 (by decide)]; exact w4
    · show (va_up N 3 (N 3 - 1)) 2 < 256; rw [u 2 (by decide)]; exact w5
    · show (va_up N 3 (N 3 - 1)) 4 + (va_up N 3 (N 3 - 1)) 3 ≤ 200; rw [u 4 (by decide), u3]; omega
    · show (va_up N 3 (N 3 - 1)) 5 ≤ 16; rw [u 5 (by decide)]; exact w7
    · show (va_up N 3 (N 3 - 1)) 6 ≤ 20; rw [u 6 (by decide)]; exact w8
    · show (va_up N 3 (N 3 - 1)) 7 ≤ 1; rw [u 7 (by decide)]; exact w9
  have bad : (ag_step sc tbl he (N, s0, p)) = (5, 0, (va_up N 3 (N 3 - 1)), s0, p) → ag_wf a (ag_step sc tbl he (N, s0, p)).2.2 ∧ (ag_step sc tbl he (N, s0, p)).1 ≤ 5 ∧ ((ag_step sc tbl he (N, s0, p)).2.2.1 5 = if (ag_step sc tbl he (N, s0, p)).1 = 1 then N 5 + 1 else N 5) ∧ ((ag_step sc tbl he (N, s0, p)).2.2.1 4 = if (ag_step sc tbl he (N, s0, p)).1 = 2 then N 4 + 1 else N 4) ∧ (ag_step sc tbl he (N, s0, p)).2.2.1 3 < N 3 ∧ ((ag_step sc tbl he (N, s0, p)).2.2.1 7 = if (ag_step sc tbl he (N, s0, p)).1 = 3 then 1 else N 7) ∧ ((ag_step sc tbl he (N, s0, p)).1 = 2 → ∃ d, d < 4 ∧ nI d ≠ nI he ∧ (ag_step sc tbl he (N, s0, p)).2.1 = nI d) := by
    intro e
    rw [e]
    refine ⟨FAIL, Nat.le_refl 5, u 5 (by decide), u 4 (by decide), ?_, u 7 (by decide), fun k => absurd (show (5 : Nat) = 2 from k) (by decide)⟩
    show (va_up N 3 (N 3 - 1)) 3 < N 3
    rw [u3]
    omega
  cases hr : ag_read sc (N 2) with
  | none =>
    refine bad ?_
    unfold ag_step
    show (match ag_read sc (N 2) with | none => _ | some (c, y) => _) = _
    rw [hr]
  | some cy =>
    obtain ⟨c, y⟩ := cy
    obtain ⟨r1, r2, r3⟩ := rd_some hr
    have hlt := (List.getElem?_eq_some_iff.mp r1).1
    have hy2 : y < 256 := by
      rcases r3 with ⟨_, q⟩ | ⟨_, q⟩
      · exact hsb _ _ q
      · omega
    have hsz : ag_sz c ≤ 2 := by rcases r3 with ⟨q, _⟩ | ⟨q, _⟩ <;> omega
    have hrd : (ag_step sc tbl he (N, s0, p)) = if ag_takes c (N, s0, p) && ag_bnd c y (N, s0, p) then ((ag_do c y tbl he (va_up (va_up N 3 (N 3 - 1)) 2 (N 2 + ag_sz c)) (s0.take (s0.length - ag_tk c)) p (ag_low c (N, s0, p)) (ag_upp (N, s0, p))).1, (ag_do c y tbl he (va_up (va_up N 3 (N 3 - 1)) 2 (N 2 + ag_sz c)) (s0.take (s0.length - ag_tk c)) p (ag_low c (N, s0, p)) (ag_upp (N, s0, p))).2.1, ag_can (ag_do c y tbl he (va_up (va_up N 3 (N 3 - 1)) 2 (N 2 + ag_sz c)) (s0.take (s0.length - ag_tk c)) p (ag_low c (N, s0, p)) (ag_upp (N, s0, p))).2.2) else (5, 0, (va_up N 3 (N 3 - 1)), s0, p) := by
      unfold ag_step
      show (match ag_read sc (N 2) with | none => _ | some (c, y) => _) = _
      rw [hr]
    cases hfit : (ag_takes c (N, s0, p) && ag_bnd c y (N, s0, p)) with
    | false =>
      rw [hfit] at hrd
      exact bad hrd
    | true =>
      rw [hfit, if_pos rfl] at hrd
      have ht : ag_takes c (N, s0, p) = true := (Bool.and_eq_true _ _ |>.mp hfit).1
      have hb : ag_bnd c y (N, s0, p) = true := (Bool.and_eq_true _ _ |>.mp hfit).2
      have okd : ag_ok (ag_do c y tbl he (va_up (va_up N 3 (N 3 - 1)) 2 (N 2 + ag_sz c)) (s0.take (s0.length - ag_tk c)) p (ag_low c (N, s0, p)) (ag_upp (N, s0, p))).2.2 := ok_do (he := he) (tbl := tbl) (N := (va_up (va_up N 3 (N 3 - 1)) 2 (N 2 + ag_sz c))) w1 (by omega) ht hb
      have hle := (do_le (y := y) (he := he) (tbl := tbl) (N := (va_up (va_up N 3 (N 3 - 1)) 2 (N 2 + ag_sz c))) (s := s0.take (s0.length - ag_tk c)) (p := p) (lo := ag_low c (N, s0, p)) (up := ag_upp (N, s0, p)) (show c < 20 by omega)).1
      obtain ⟨⟨d0, d1, d2, d3, d4, d5, d6, d7⟩, d8, d9⟩ := do_num (y := y) (he := he) (tbl := tbl) (N := (va_up (va_up N 3 (N 3 - 1)) 2 (N 2 + ag_sz c))) (s := s0.take (s0.length - ag_tk c)) (p := p) (lo := ag_low c (N, s0, p)) (up := ag_upp (N, s0, p)) (show c < 20 by omega)
      have v : ∀ k, k ≠ 2 → k ≠ 3 → (va_up (va_up N 3 (N 3 - 1)) 2 (N 2 + ag_sz c)) k = N k := fun k h1 h2 => (fm_upN h1).trans (u k h2)
      have v2 : (va_up (va_up N 3 (N 3 - 1)) 2 (N 2 + ag_sz c)) 2 = N 2 + ag_sz c := fm_upS
      have v3 : (va_up (va_up N 3 (N 3 - 1)) 2 (N 2 + ag_sz c)) 3 = N 3 - 1 := (fm_upN (by decide)).trans u3
      rw [v 0 (by decide) (by decide)] at d0
      rw [v 1 (by decide) (by decide)] at d1
      rw [v2] at d2
      rw [v3] at d3
      rw [v 4 (by decide) (by decide)] at d4
      rw [v 5 (by decide) (by decide)] at d5
      rw [v 6 (by decide) (by decide)] at d6
      rw [v 7 (by decide) (by decide)] at d7
      have b8 : (ag_do c y tbl he (va_up (va_up N 3 (N 3 - 1)) 2 (N 2 + ag_sz c)) (s0.take (s0.length - ag_tk c)) p (ag_low c (N, s0, p)) (ag_upp (N, s0, p))).1 = 1 → N 5 < 16 := by
        intro q
        have e := d8 q
        subst e
        simpa [ag_bnd] using hb
      have b13 : c = 13 → (ag_int (ag_upp (N, s0, p))).toInt.toNat ≤ 20 := by
        intro e
        subst e
        have k : (decide (0 ≤ ag_int (ag_upp (N, s0, p))) && decide (ag_int (ag_upp (N, s0, p)) ≤ 20)) = true := hb
        rw [Bool.and_eq_true, decide_eq_true_eq, decide_eq_true_eq] at k
        exact (toN_of (a := 0) (c := 20) (lo := 0) (hi := 20) rfl rfl ⟨Int32.not_lt.mpr k.1, Int32.not_lt.mpr k.2⟩).2.2
      have b9 : (ag_do c y tbl he (va_up (va_up N 3 (N 3 - 1)) 2 (N 2 + ag_sz c)) (s0.take (s0.length - ag_tk c)) p (ag_low c (N, s0, p)) (ag_upp (N, s0, p))).1 = 2 → ∃ d, d < 4 ∧ nI d ≠ nI he ∧ (ag_do c y tbl he (va_up (va_up N 3 (N 3 - 1)) 2 (N 2 + ag_sz c)) (s0.take (s0.length - ag_tk c)) p (ag_low c (N, s0, p)) (ag_upp (N, s0, p))).2.1 = nI d := by
        intro q
        obtain ⟨e, k1, k2⟩ := d9 q
        subst e
        have k : (decide (0 ≤ ag_int (ag_upp (N, s0, p))) && decide (ag_int (ag_upp (N, s0, p)) < 4)) = true := hb
        rw [Bool.and_eq_true, decide_eq_true_eq, decide_eq_true_eq] at k
        have k4 : ag_int (ag_upp (N, s0, p)) ≤ 3 := Int32.le_iff_toInt_le.mpr (by
          have := Int32.lt_iff_toInt_lt.mp k.2
          have e4 : (4 : Int32).toInt = 4 := by decide
          have e3 : (3 : Int32).toInt = 3 := by decide
          omega)
        obtain ⟨t1, -, t3⟩ := toN_of (v := ag_int (ag_upp (N, s0, p))) (a := 0) (c := 3) (lo := 0) (hi := 3) rfl rfl ⟨Int32.not_lt.mpr k.1, Int32.not_lt.mpr k4⟩
        exact ⟨(ag_int (ag_upp (N, s0, p))).toInt.toNat, by omega, by rw [← t1]; exact k2, by rw [k1]; exact t1⟩
      clear hb ht
      generalize (ag_do c y tbl he (va_up (va_up N 3 (N 3 - 1)) 2 (N 2 + ag_sz c)) (s0.take (s0.length - ag_tk c)) p (ag_low c (N, s0, p)) (ag_upp (N, s0, p))) = dd at *
      rw [hrd]
      refine ⟨⟨can_ok okd, can_can okd, d0.trans w3, ?_, ?_, ?_, ?_, ?_, ?_⟩, by show dd.1 ≤ 5; omega, d5, d4, ?_, d7, b9⟩
      · show dd.2.2.1 1 < 4; rw [d1]; exact w4
      · show dd.2.2.1 2 < 256
        clear b9 b8 b13 d4 d5 d6 d7 d8 d9
        omega
      · show dd.2.2.1 4 + dd.2.2.1 3 ≤ 200
        rw [d4]
        clear b9 b8 b13 d5 d6 d7 d8 d9
        split <;> omega
      · show dd.2.2.1 5 ≤ 16
        rw [d5]
        split
        · rename_i q
          have := b8 q
          omega
        · exact w7
      · show dd.2.2.1 6 ≤ 20
        rcases d6 with q | ⟨q1, q2⟩
        · omega
        · rw [q2]
          exact b13 q1
      · show dd.2.2.1 7 ≤ 1
        rw [d7]
        clear b9 b8 b13 d4 d5 d6 d8 d9
        split <;> omega
      · show dd.2.2.1 3 < N 3
        clear b9 b8 b13 d4 d5 d6 d7 d8 d9
        omega
