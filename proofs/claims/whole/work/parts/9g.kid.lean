/-! THE CHILD is the same on both sides -/
theorem fold_inl (s : List bf_V) (a : Int32) (ord : List Nat) : (s ++ [(.inl a : bf_V)]).foldl bf_see ord = s.foldl bf_see ord := by
  rw [List.foldl_append]
  rfl
theorem set_last (l : List bf_V) (a c : bf_V) : (l ++ [a]).set ((l ++ [a]).length - 1) c = l ++ [c] := by
  rw [List.length_append]
  show (l ++ [a]).set l.length c = l ++ [c]
  rw [List.set_append_right _ _ (Nat.le_refl _), Nat.sub_self]
  rfl
theorem can_inl (N : Nat → Nat) (s : List bf_V) (p : List (bf_V × bf_V)) (a : Int32) : ag_can (N, s ++ [.inl a], p) = (N, s.map (bf_ren (bf_ord (ag_fn p) 9 s)) ++ [.inl a], (bf_ord (ag_fn p) 9 s).map (fun q => (bf_ren (bf_ord (ag_fn p) 9 s) (ag_fn p q).1, bf_ren (bf_ord (ag_fn p) 9 s) (ag_fn p q).2))) := by
  have e : bf_ord (ag_fn p) 9 (s ++ [.inl a]) = bf_ord (ag_fn p) 9 s := by rw [ord_seq, ord_seq, fold_inl]
  show (N, (s ++ [(.inl a : bf_V)]).map (bf_ren (bf_ord (ag_fn p) 9 (s ++ [(.inl a : bf_V)]))), (bf_ord (ag_fn p) 9 (s ++ [(.inl a : bf_V)])).map (fun q => (bf_ren (bf_ord (ag_fn p) 9 (s ++ [(.inl a : bf_V)])) (ag_fn p q).1, bf_ren (bf_ord (ag_fn p) 9 (s ++ [(.inl a : bf_V)])) (ag_fn p q).2))) = _
  rw [e, List.map_append]
  rfl
theorem kid_num (N : Nat → Nat) (z w : Nat) : va_up (va_up (va_up (va_up (va_up (va_up (va_up (va_up N 3 z) 7 1) 0 (va_up (va_up N 3 z) 7 1 0 + 4)) 3 w) 4 0) 5 0) 6 0) 7 0 = va_up (va_up (va_up (va_up (va_up (va_up N 0 (N 0 + 4)) 3 w) 4 0) 5 0) 6 0) 7 0 := by
  funext j
  by_cases h7 : j = 7
  · subst h7
    rw [fm_upS, fm_upS]
  · rw [fm_upN h7, fm_upN h7]
    by_cases h6 : j = 6
    · subst h6
      rw [fm_upS, fm_upS]
    · rw [fm_upN h6, fm_upN h6]
      by_cases h5 : j = 5
      · subst h5
        rw [fm_upS, fm_upS]
      · rw [fm_upN h5, fm_upN h5]
        by_cases h4 : j = 4
        · subst h4
          rw [fm_upS, fm_upS]
        · rw [fm_upN h4, fm_upN h4]
          by_cases h3 : j = 3
          · subst h3
            rw [fm_upS, fm_upS]
          · rw [fm_upN h3, fm_upN h3]
            by_cases h0 : j = 0
            · subst h0
              rw [fm_upS, fm_upS, fm_upN (by decide), fm_upN (by decide)]
            · rw [fm_upN h0, fm_upN h0, fm_upN h7, fm_upN h3]
theorem do_12 {y he : Nat} {tbl : Nat → Int32} {N : Nat → Nat} {s : List bf_V} {p : List (bf_V × bf_V)} {lo up : bf_V} : ag_do 12 y tbl he N s p lo up = if 4 ≤ N 0 ∨ N 7 ≠ 0 ∨ ag_int up < 1 ∨ nI (N 3) < ag_int up then (0, 0, N, s ++ [.inl (-1)], p) else (3, ag_int up, va_up (va_up N 3 (N 3 - (ag_int up).toInt.toNat)) 7 1, s ++ [.inl 0], p) := rfl
theorem kid_eq {sc : List Nat} {tbl : Nat → Int32} {he : Nat} {A : ag_T} (h : (ag_step sc tbl he A).1 = 3) : ch_K (ag_step sc tbl he A).2.2 (ag_step sc tbl he A).2.1.toInt.toNat = ag_kidOf A (ag_step sc tbl he A).2.1.toInt.toNat ∧ A.1 0 < 4 ∧ A.1 7 = 0 ∧ (ag_step sc tbl he A).2.2.1 7 = 1 ∧ 1 ≤ (ag_step sc tbl he A).2.2.2.1.length ∧ (ag_step sc tbl he A).2.2.1 0 = A.1 0 ∧ ¬ (ag_step sc tbl he A).2.1 < 1 ∧ ¬ nI (A.1 3 - 1) < (ag_step sc tbl he A).2.1 := by
  obtain ⟨N, s0, p⟩ := A
  cases hr : ag_read sc (N 2) with
  | none =>
    have eS : ag_step sc tbl he (N, s0, p) = (5, 0, va_up N 3 (N 3 - 1), s0, p) := by
      unfold ag_step
      show (match ag_read sc (N 2) with | none => _ | some (c, y) => _) = _
      rw [hr]
    rw [eS] at h
    exact no3 h rfl
  | some cy =>
    obtain ⟨c, y⟩ := cy
    obtain ⟨-, r2, -⟩ := rd_some hr
    have hrd : ag_step sc tbl he (N, s0, p) = if ag_takes c (N, s0, p) && ag_bnd c y (N, s0, p) then ((ag_do c y tbl he (va_up (va_up N 3 (N 3 - 1)) 2 (N 2 + ag_sz c)) (s0.take (s0.length - ag_tk c)) p (ag_low c (N, s0, p)) (ag_upp (N, s0, p))).1, (ag_do c y tbl he (va_up (va_up N 3 (N 3 - 1)) 2 (N 2 + ag_sz c)) (s0.take (s0.length - ag_tk c)) p (ag_low c (N, s0, p)) (ag_upp (N, s0, p))).2.1, ag_can (ag_do c y tbl he (va_up (va_up N 3 (N 3 - 1)) 2 (N 2 + ag_sz c)) (s0.take (s0.length - ag_tk c)) p (ag_low c (N, s0, p)) (ag_upp (N, s0, p))).2.2) else (5, 0, va_up N 3 (N 3 - 1), s0, p) := by
      unfold ag_step
      show (match ag_read sc (N 2) with | none => _ | some (c, y) => _) = _
      rw [hr]
    cases hfit : (ag_takes c (N, s0, p) && ag_bnd c y (N, s0, p)) with
    | false =>
      rw [hfit] at hrd
      have eS : ag_step sc tbl he (N, s0, p) = (5, 0, va_up N 3 (N 3 - 1), s0, p) := hrd
      rw [eS] at h
      exact no3 h rfl
    | true =>
      rw [hfit, if_pos rfl] at hrd
      have e12 : c = 12 := by
        rw [hrd] at h
        exact (do_le (show c < 20 by omega)).2 h
      subst e12
      have n0 : va_up (va_up N 3 (N 3 - 1)) 2 (N 2 + ag_sz 12) 0 = N 0 := (fm_upN (by decide)).trans (fm_upN (by decide))
      have n7 : va_up (va_up N 3 (N 3 - 1)) 2 (N 2 + ag_sz 12) 7 = N 7 := (fm_upN (by decide)).trans (fm_upN (by decide))
      rw [do_12] at hrd
      by_cases g : 4 ≤ va_up (va_up N 3 (N 3 - 1)) 2 (N 2 + ag_sz 12) 0 ∨ va_up (va_up N 3 (N 3 - 1)) 2 (N 2 + ag_sz 12) 7 ≠ 0 ∨ ag_int (ag_upp (N, s0, p)) < 1 ∨ nI (va_up (va_up N 3 (N 3 - 1)) 2 (N 2 + ag_sz 12) 3) < ag_int (ag_upp (N, s0, p))
      · rw [if_pos g] at hrd
        rw [hrd] at h
        exact no3 h rfl
      · rw [if_neg g] at hrd
        have g0 : ¬ 4 ≤ N 0 := fun q => g (Or.inl (by rw [n0]; exact q))
        have g7 : N 7 = 0 := Decidable.byContradiction (fun q => g (Or.inr (Or.inl (by rw [n7]; exact q))))
        rw [hrd]
        refine ⟨?_, by show N 0 < 4; omega, g7, ?_, ?_, ?_, fun q => g (Or.inr (Or.inr (Or.inl q))), fun q => g (Or.inr (Or.inr (Or.inr (by rw [show va_up (va_up N 3 (N 3 - 1)) 2 (N 2 + ag_sz 12) 3 = N 3 - 1 from (fm_upN (by decide)).trans fm_upS]; exact q))))⟩
        · show ch_K (ag_can (va_up (va_up (va_up (va_up N 3 (N 3 - 1)) 2 (N 2 + 1)) 3 (va_up (va_up N 3 (N 3 - 1)) 2 (N 2 + 1) 3 - (ag_int (ag_upp (N, s0, p))).toInt.toNat)) 7 1, s0.take (s0.length - 1) ++ [.inl 0], p)) (ag_int (ag_upp (N, s0, p))).toInt.toNat = ag_can (ag_kid (va_up (va_up N 3 (N 3 - 1)) 2 (N 2 + 1), s0.take (s0.length - 1), p) (ag_int (ag_upp (N, s0, p))).toInt.toNat)
          unfold ag_kid
          rw [can_inl, can_inl]
          unfold ch_K
          rw [kid_num, set_last]
        · show va_up (va_up (va_up (va_up N 3 (N 3 - 1)) 2 (N 2 + ag_sz 12)) 3 (va_up (va_up N 3 (N 3 - 1)) 2 (N 2 + ag_sz 12) 3 - (ag_int (ag_upp (N, s0, p))).toInt.toNat)) 7 1 7 = 1
          exact fm_upS
        · show 1 ≤ (ag_can (_, s0.take (s0.length - 1) ++ [.inl 0], p)).2.1.length
          rw [can_inl, List.length_append]
          exact Nat.le_add_left 1 _
        · show va_up (va_up (va_up (va_up N 3 (N 3 - 1)) 2 (N 2 + ag_sz 12)) 3 (va_up (va_up N 3 (N 3 - 1)) 2 (N 2 + ag_sz 12) 3 - (ag_int (ag_upp (N, s0, p))).toInt.toNat)) 7 1 0 = N 0
          exact (fm_upN (by decide)).trans ((fm_upN (by decide)).trans n0)
