/-! THE REFERENCE: isFit entire -/
theorem kind0 (v : bf_V) : ag_kind v 0 = true := by cases v <;> rfl
theorem kind2 (v : bf_V) : ag_kind v 2 = !ag_kind v 1 := by cases v <;> rfl
theorem fit_0 {y : Nat} {A : ag_T} (h6 : A.2.1.length ≤ 6) : (ag_takes 0 A && ag_bnd 0 y A) = true := by
  have e0 : ag_ii 0 A = (decide (0 < A.2.1.length) && ag_kind (ag_upp A) 1) := rfl
  show (decide (0 ≤ A.2.1.length) && decide (A.2.1.length - 0 + 0 ≤ 6) && true && true) = _
  try simp only [kind0, kind2, e0]
  generalize A.2.1.length = d at *
  (rw [Bool.eq_iff_iff]; simp) <;> omega
theorem fit_1 {y : Nat} {A : ag_T} (h6 : A.2.1.length ≤ 6) : (ag_takes 1 A && ag_bnd 1 y A) = decide (A.2.1.length < 6) := by
  have e0 : ag_ii 0 A = (decide (0 < A.2.1.length) && ag_kind (ag_upp A) 1) := rfl
  show (decide (0 ≤ A.2.1.length) && decide (A.2.1.length - 0 + 1 ≤ 6) && true && true) = _
  try simp only [kind0, kind2, e0]
  generalize A.2.1.length = d at *
  (rw [Bool.eq_iff_iff]; simp) <;> omega
theorem fit_2 {y : Nat} {A : ag_T} (h6 : A.2.1.length ≤ 6) : (ag_takes 2 A && ag_bnd 2 y A) = (ag_ii 0 A && ag_ii 1 A) := by
  have e0 : ag_ii 0 A = (decide (0 < A.2.1.length) && ag_kind (ag_upp A) 1) := rfl
  have e1 : ag_ii 1 A = (decide (1 < A.2.1.length) && ag_kind (ag_low 2 A) 1) := rfl
  show (decide (2 ≤ A.2.1.length) && decide (A.2.1.length - 2 + 1 ≤ 6) && (false || (ag_kind (ag_low 2 A) 1 && ag_kind (ag_upp A) 1)) && true) = _
  try simp only [kind0, kind2, e0, e1]
  generalize A.2.1.length = d at *
  generalize ag_kind (ag_low 2 A) 1 = u1
  generalize ag_kind (ag_upp A) 1 = u2
  cases u1 <;> cases u2 <;> (rw [Bool.eq_iff_iff]; simp) <;> omega
theorem fit_3 {y : Nat} {A : ag_T} (h6 : A.2.1.length ≤ 6) : (ag_takes 3 A && ag_bnd 3 y A) = (ag_ii 0 A && ag_ii 1 A) := by
  have e0 : ag_ii 0 A = (decide (0 < A.2.1.length) && ag_kind (ag_upp A) 1) := rfl
  have e1 : ag_ii 1 A = (decide (1 < A.2.1.length) && ag_kind (ag_low 3 A) 1) := rfl
  show (decide (2 ≤ A.2.1.length) && decide (A.2.1.length - 2 + 1 ≤ 6) && (false || (ag_kind (ag_low 3 A) 1 && ag_kind (ag_upp A) 1)) && true) = _
  try simp only [kind0, kind2, e0, e1]
  generalize A.2.1.length = d at *
  generalize ag_kind (ag_low 3 A) 1 = u1
  generalize ag_kind (ag_upp A) 1 = u2
  cases u1 <;> cases u2 <;> (rw [Bool.eq_iff_iff]; simp) <;> omega
theorem fit_4 {y : Nat} {A : ag_T} (h6 : A.2.1.length ≤ 6) : (ag_takes 4 A && ag_bnd 4 y A) = (ag_ii 0 A && ag_ii 1 A) := by
  have e0 : ag_ii 0 A = (decide (0 < A.2.1.length) && ag_kind (ag_upp A) 1) := rfl
  have e1 : ag_ii 1 A = (decide (1 < A.2.1.length) && ag_kind (ag_low 4 A) 1) := rfl
  show (decide (2 ≤ A.2.1.length) && decide (A.2.1.length - 2 + 1 ≤ 6) && (false || (ag_kind (ag_low 4 A) 1 && ag_kind (ag_upp A) 1)) && true) = _
  try simp only [kind0, kind2, e0, e1]
  generalize A.2.1.length = d at *
  generalize ag_kind (ag_low 4 A) 1 = u1
  generalize ag_kind (ag_upp A) 1 = u2
  cases u1 <;> cases u2 <;> (rw [Bool.eq_iff_iff]; simp) <;> omega
theorem fit_5 {y : Nat} {A : ag_T} (h6 : A.2.1.length ≤ 6) : (ag_takes 5 A && ag_bnd 5 y A) = (decide (y < A.2.1.length) && decide (A.2.1.length < 6)) := by
  have e0 : ag_ii 0 A = (decide (0 < A.2.1.length) && ag_kind (ag_upp A) 1) := rfl
  show (decide (0 ≤ A.2.1.length) && decide (A.2.1.length - 0 + 1 ≤ 6) && true && decide (y < A.2.1.length)) = _
  try simp only [kind0, kind2, e0]
  generalize A.2.1.length = d at *
  (rw [Bool.eq_iff_iff]; simp) <;> omega
theorem fit_6 {y : Nat} {A : ag_T} (h6 : A.2.1.length ≤ 6) : (ag_takes 6 A && ag_bnd 6 y A) = decide (0 < A.2.1.length) := by
  have e0 : ag_ii 0 A = (decide (0 < A.2.1.length) && ag_kind (ag_upp A) 1) := rfl
  have e1 : ag_low 6 A = ag_upp A := rfl
  show (decide (1 ≤ A.2.1.length) && decide (A.2.1.length - 1 + 0 ≤ 6) && (false || (ag_kind (ag_low 6 A) 0 && ag_kind (ag_upp A) 0)) && true) = _
  try simp only [kind0, kind2, e0, e1]
  generalize A.2.1.length = d at *
  generalize ag_kind (ag_upp A) 1 = u2
  cases u2 <;> (rw [Bool.eq_iff_iff]; simp) <;> omega
theorem fit_7 {y : Nat} {A : ag_T} (h6 : A.2.1.length ≤ 6) : (ag_takes 7 A && ag_bnd 7 y A) = (decide (y < 8) && decide (A.2.1.length < 6)) := by
  have e0 : ag_ii 0 A = (decide (0 < A.2.1.length) && ag_kind (ag_upp A) 1) := rfl
  show (decide (0 ≤ A.2.1.length) && decide (A.2.1.length - 0 + 1 ≤ 6) && true && decide (y < 8)) = _
  try simp only [kind0, kind2, e0]
  generalize A.2.1.length = d at *
  (rw [Bool.eq_iff_iff]; simp) <;> omega
theorem fit_8 {y : Nat} {A : ag_T} (h6 : A.2.1.length ≤ 6) : (ag_takes 8 A && ag_bnd 8 y A) = (ag_ii 0 A && decide (A.1 5 < 16)) := by
  have e0 : ag_ii 0 A = (decide (0 < A.2.1.length) && ag_kind (ag_upp A) 1) := rfl
  have e1 : ag_low 8 A = ag_upp A := rfl
  show (decide (1 ≤ A.2.1.length) && decide (A.2.1.length - 1 + 0 ≤ 6) && (false || (ag_kind (ag_low 8 A) 1 && ag_kind (ag_upp A) 1)) && decide (A.1 5 < 16)) = _
  try simp only [kind0, kind2, e0, e1]
  generalize A.2.1.length = d at *
  generalize ag_kind (ag_upp A) 1 = u2
  cases u2 <;> (rw [Bool.eq_iff_iff]; simp) <;> omega
theorem fit_9 {y : Nat} {A : ag_T} (h6 : A.2.1.length ≤ 6) : (ag_takes 9 A && ag_bnd 9 y A) = (ag_ii 0 A && ag_bnd 9 y A) := by
  have e0 : ag_ii 0 A = (decide (0 < A.2.1.length) && ag_kind (ag_upp A) 1) := rfl
  have e1 : ag_low 9 A = ag_upp A := rfl
  show (decide (1 ≤ A.2.1.length) && decide (A.2.1.length - 1 + 0 ≤ 6) && (false || (ag_kind (ag_low 9 A) 1 && ag_kind (ag_upp A) 1)) && ag_bnd 9 y A) = _
  try simp only [kind0, kind2, e0, e1]
  generalize A.2.1.length = d at *
  generalize ag_kind (ag_upp A) 1 = u2
  generalize ag_bnd 9 y A = u3
  cases u2 <;> cases u3 <;> (rw [Bool.eq_iff_iff]; simp) <;> omega
theorem fit_10 {y : Nat} {A : ag_T} (h6 : A.2.1.length ≤ 6) : (ag_takes 10 A && ag_bnd 10 y A) = true := by
  have e0 : ag_ii 0 A = (decide (0 < A.2.1.length) && ag_kind (ag_upp A) 1) := rfl
  show (decide (0 ≤ A.2.1.length) && decide (A.2.1.length - 0 + 0 ≤ 6) && true && true) = _
  try simp only [kind0, kind2, e0]
  generalize A.2.1.length = d at *
  (rw [Bool.eq_iff_iff]; simp) <;> omega
theorem fit_11 {y : Nat} {A : ag_T} (h6 : A.2.1.length ≤ 6) : (ag_takes 11 A && ag_bnd 11 y A) = ag_ii 0 A := by
  have e0 : ag_ii 0 A = (decide (0 < A.2.1.length) && ag_kind (ag_upp A) 1) := rfl
  have e1 : ag_low 11 A = ag_upp A := rfl
  show (decide (1 ≤ A.2.1.length) && decide (A.2.1.length - 1 + 0 ≤ 6) && (false || (ag_kind (ag_low 11 A) 1 && ag_kind (ag_upp A) 1)) && true) = _
  try simp only [kind0, kind2, e0, e1]
  generalize A.2.1.length = d at *
  generalize ag_kind (ag_upp A) 1 = u2
  cases u2 <;> (rw [Bool.eq_iff_iff]; simp) <;> omega
theorem fit_12 {y : Nat} {A : ag_T} (h6 : A.2.1.length ≤ 6) : (ag_takes 12 A && ag_bnd 12 y A) = ag_ii 0 A := by
  have e0 : ag_ii 0 A = (decide (0 < A.2.1.length) && ag_kind (ag_upp A) 1) := rfl
  have e1 : ag_low 12 A = ag_upp A := rfl
  show (decide (1 ≤ A.2.1.length) && decide (A.2.1.length - 1 + 1 ≤ 6) && (false || (ag_kind (ag_low 12 A) 1 && ag_kind (ag_upp A) 1)) && true) = _
  try simp only [kind0, kind2, e0, e1]
  generalize A.2.1.length = d at *
  generalize ag_kind (ag_upp A) 1 = u2
  cases u2 <;> (rw [Bool.eq_iff_iff]; simp) <;> omega
theorem fit_13 {y : Nat} {A : ag_T} (h6 : A.2.1.length ≤ 6) : (ag_takes 13 A && ag_bnd 13 y A) = (ag_ii 0 A && ag_bnd 13 y A) := by
  have e0 : ag_ii 0 A = (decide (0 < A.2.1.length) && ag_kind (ag_upp A) 1) := rfl
  have e1 : ag_low 13 A = ag_upp A := rfl
  show (decide (1 ≤ A.2.1.length) && decide (A.2.1.length - 1 + 0 ≤ 6) && (false || (ag_kind (ag_low 13 A) 1 && ag_kind (ag_upp A) 1)) && ag_bnd 13 y A) = _
  try simp only [kind0, kind2, e0, e1]
  generalize A.2.1.length = d at *
  generalize ag_kind (ag_upp A) 1 = u2
  generalize ag_bnd 13 y A = u3
  cases u2 <;> cases u3 <;> (rw [Bool.eq_iff_iff]; simp) <;> omega
theorem fit_14 {y : Nat} {A : ag_T} (h6 : A.2.1.length ≤ 6) : (ag_takes 14 A && ag_bnd 14 y A) = (decide (1 < A.2.1.length) && decide (A.2.2.length < 8)) := by
  have e0 : ag_ii 0 A = (decide (0 < A.2.1.length) && ag_kind (ag_upp A) 1) := rfl
  have e1 : ag_ii 1 A = (decide (1 < A.2.1.length) && ag_kind (ag_low 14 A) 1) := rfl
  show (decide (2 ≤ A.2.1.length) && decide (A.2.1.length - 2 + 1 ≤ 6) && (false || (ag_kind (ag_low 14 A) 0 && ag_kind (ag_upp A) 0)) && decide (A.2.2.length < 8)) = _
  try simp only [kind0, kind2, e0, e1]
  generalize A.2.1.length = d at *
  generalize ag_kind (ag_low 14 A) 1 = u1
  generalize ag_kind (ag_upp A) 1 = u2
  cases u1 <;> cases u2 <;> (rw [Bool.eq_iff_iff]; simp) <;> omega
theorem fit_15 {y : Nat} {A : ag_T} (h6 : A.2.1.length ≤ 6) : (ag_takes 15 A && ag_bnd 15 y A) = (decide (0 < A.2.1.length) && !ag_ii 0 A) := by
  have e0 : ag_ii 0 A = (decide (0 < A.2.1.length) && ag_kind (ag_upp A) 1) := rfl
  have e1 : ag_low 15 A = ag_upp A := rfl
  show (decide (1 ≤ A.2.1.length) && decide (A.2.1.length - 1 + 1 ≤ 6) && (false || (ag_kind (ag_low 15 A) 2 && ag_kind (ag_upp A) 2)) && true) = _
  try simp only [kind0, kind2, e0, e1]
  generalize A.2.1.length = d at *
  generalize ag_kind (ag_upp A) 1 = u2
  cases u2 <;> (rw [Bool.eq_iff_iff]; simp) <;> omega
theorem fit_16 {y : Nat} {A : ag_T} (h6 : A.2.1.length ≤ 6) : (ag_takes 16 A && ag_bnd 16 y A) = (decide (0 < A.2.1.length) && !ag_ii 0 A) := by
  have e0 : ag_ii 0 A = (decide (0 < A.2.1.length) && ag_kind (ag_upp A) 1) := rfl
  have e1 : ag_low 16 A = ag_upp A := rfl
  show (decide (1 ≤ A.2.1.length) && decide (A.2.1.length - 1 + 1 ≤ 6) && (false || (ag_kind (ag_low 16 A) 2 && ag_kind (ag_upp A) 2)) && true) = _
  try simp only [kind0, kind2, e0, e1]
  generalize A.2.1.length = d at *
  generalize ag_kind (ag_upp A) 1 = u2
  cases u2 <;> (rw [Bool.eq_iff_iff]; simp) <;> omega
theorem fit_17 {y : Nat} {A : ag_T} (h6 : A.2.1.length ≤ 6) : (ag_takes 17 A && ag_bnd 17 y A) = (decide (1 < A.2.1.length) && !ag_ii 1 A) := by
  have e0 : ag_ii 0 A = (decide (0 < A.2.1.length) && ag_kind (ag_upp A) 1) := rfl
  have e1 : ag_ii 1 A = (decide (1 < A.2.1.length) && ag_kind (ag_low 17 A) 1) := rfl
  show (decide (2 ≤ A.2.1.length) && decide (A.2.1.length - 2 + 0 ≤ 6) && (false || (ag_kind (ag_low 17 A) 2 && ag_kind (ag_upp A) 0)) && true) = _
  try simp only [kind0, kind2, e0, e1]
  generalize A.2.1.length = d at *
  generalize ag_kind (ag_low 17 A) 1 = u1
  generalize ag_kind (ag_upp A) 1 = u2
  cases u1 <;> cases u2 <;> (rw [Bool.eq_iff_iff]; simp) <;> omega
theorem fit_18 {y : Nat} {A : ag_T} (h6 : A.2.1.length ≤ 6) : (ag_takes 18 A && ag_bnd 18 y A) = (decide (1 < A.2.1.length) && !ag_ii 1 A) := by
  have e0 : ag_ii 0 A = (decide (0 < A.2.1.length) && ag_kind (ag_upp A) 1) := rfl
  have e1 : ag_ii 1 A = (decide (1 < A.2.1.length) && ag_kind (ag_low 18 A) 1) := rfl
  show (decide (2 ≤ A.2.1.length) && decide (A.2.1.length - 2 + 0 ≤ 6) && (false || (ag_kind (ag_low 18 A) 2 && ag_kind (ag_upp A) 0)) && true) = _
  try simp only [kind0, kind2, e0, e1]
  generalize A.2.1.length = d at *
  generalize ag_kind (ag_low 18 A) 1 = u1
  generalize ag_kind (ag_upp A) 1 = u2
  cases u1 <;> cases u2 <;> (rw [Bool.eq_iff_iff]; simp) <;> omega
theorem fit_19 {y : Nat} {A : ag_T} (h6 : A.2.1.length ≤ 6) : (ag_takes 19 A && ag_bnd 19 y A) = decide (1 < A.2.1.length) := by
  have e0 : ag_ii 0 A = (decide (0 < A.2.1.length) && ag_kind (ag_upp A) 1) := rfl
  have e1 : ag_ii 1 A = (decide (1 < A.2.1.length) && ag_kind (ag_low 19 A) 1) := rfl
  show (decide (2 ≤ A.2.1.length) && decide (A.2.1.length - 2 + 1 ≤ 6) && (false || (ag_kind (ag_low 19 A) 0 && ag_kind (ag_upp A) 0)) && true) = _
  try simp only [kind0, kind2, e0, e1]
  generalize A.2.1.length = d at *
  generalize ag_kind (ag_low 19 A) 1 = u1
  generalize ag_kind (ag_upp A) 1 = u2
  cases u1 <;> cases u2 <;> (rw [Bool.eq_iff_iff]; simp) <;> omega
theorem rc_upA_9 {l : Launch} {b : Nat} {x : Nat → Nat} {D : va_G} {dA : Nat → ClassId} {gi y n : Nat} {F : Nat → Prop} {A : ag_T} {g : Nat → Nat} {M : fm_M} (hn : 629 ≤ n) (hR : fm_RP M) (hg : gi < 98) (h : hr_G M gi F A g) (ok : ag_ok A) : Met l y_Mo_isUpTo (Cond.code y_Mo_isUpTo b_Mo_isUpTo 3 (some .boolean) :: fm_T0) ({ frames := 2, cells := 0, slots := 0, locals := 50 }) (fm_Pc fm_lay fm_nf fm_fk fm_cl b x D dA (fm_tys dA) (fm_EX b x) false [.ref 586, .int (nI gi), .int (nI 3)] n M) (fm_Qc fm_lay fm_nf fm_fk fm_cl b x D dA (fun r n' M' => r = some (.int (nI (if ag_ii 0 A && ag_bnd 9 y A then 1 else 0))) ∧ n' = n ∧ M' = M)) 0 0 (fm_A b) := by
  have hi := rc_isIntA (j := 0) (l := l) (b := b) (x := x) (D := D) (dA := dA) hn hR hg (by decide) h ok
  cases ei : ag_ii 0 A with
  | false =>
    rw [ei] at hi
    exact rc_upto_no hn hR hi
  | true =>
    rw [ei] at hi
    have hd : 0 < A.2.1.length ∧ ag_kind (ag_upp A) 1 = true := by
      have e0 : ag_ii 0 A = (decide (0 < A.2.1.length) && ag_kind (ag_upp A) 1) := rfl
      rw [e0] at ei
      simpa using ei
    obtain ⟨v, hv⟩ := kind_int hd.2
    have e := hrG_at h hd.1
    have e2 : A.2.1.getD (A.2.1.length - 1 - 0) (.inl 0) = .inl v := hv
    rw [e2] at e
    have hb : ag_bnd 9 y A = (decide (0 ≤ v) && decide (v < 4)) := by
      show (decide (0 ≤ ag_int (ag_upp A)) && decide (ag_int (ag_upp A) < 4)) = _
      rw [hv]
      rfl
    by_cases g1 : v < 0
    · rw [show (true && ag_bnd 9 y A) = false by rw [hb, decide_eq_false (Int32.not_le.mpr g1)]; rfl]
      exact rc_upto_neg hn hR hg h.2.1 ok.1 hd.1 (by decide) e hi g1
    · by_cases g2 : nI 3 < v
      · have g3 : ¬ (v < 4) := fun q => absurd (Int32.lt_iff_toInt_lt.mp g2) (by have := Int32.lt_iff_toInt_lt.mp q; have e3 : (nI 3).toInt = 3 := (by decide); have e4 : (4 : Int32).toInt = 4 := (by decide); omega)
        rw [show (true && ag_bnd 9 y A) = false by rw [hb, decide_eq_false g3, Bool.and_false]; rfl]
        exact rc_upto_big hn hR hg h.2.1 ok.1 hd.1 (by decide) e hi g1 g2
      · have g3 : v < 4 := Int32.lt_iff_toInt_lt.mpr (by have g4 := Int32.le_iff_toInt_le.mp (Int32.not_lt.mp g2); have e3 : (nI 3).toInt = 3 := (by decide); have e4 : (4 : Int32).toInt = 4 := (by decide); omega)
        rw [show (true && ag_bnd 9 y A) = true by rw [hb, decide_eq_true (Int32.not_lt.mp g1), decide_eq_true g3]; rfl]
        exact rc_upto_ok hn hR hg h.2.1 ok.1 hd.1 (by decide) e hi g1 g2
theorem rc_upA_13 {l : Launch} {b : Nat} {x : Nat → Nat} {D : va_G} {dA : Nat → ClassId} {gi y n : Nat} {F : Nat → Prop} {A : ag_T} {g : Nat → Nat} {M : fm_M} (hn : 629 ≤ n) (hR : fm_RP M) (hg : gi < 98) (h : hr_G M gi F A g) (ok : ag_ok A) : Met l y_Mo_isUpTo (Cond.code y_Mo_isUpTo b_Mo_isUpTo 3 (some .boolean) :: fm_T0) ({ frames := 2, cells := 0, slots := 0, locals := 50 }) (fm_Pc fm_lay fm_nf fm_fk fm_cl b x D dA (fm_tys dA) (fm_EX b x) false [.ref 586, .int (nI gi), .int (nI 20)] n M) (fm_Qc fm_lay fm_nf fm_fk fm_cl b x D dA (fun r n' M' => r = some (.int (nI (if ag_ii 0 A && ag_bnd 13 y A then 1 else 0))) ∧ n' = n ∧ M' = M)) 0 0 (fm_A b) := by
  have hi := rc_isIntA (j := 0) (l := l) (b := b) (x := x) (D := D) (dA := dA) hn hR hg (by decide) h ok
  cases ei : ag_ii 0 A with
  | false =>
    rw [ei] at hi
    exact rc_upto_no hn hR hi
  | true =>
    rw [ei] at hi
    have hd : 0 < A.2.1.length ∧ ag_kind (ag_upp A) 1 = true := by
      have e0 : ag_ii 0 A = (decide (0 < A.2.1.length) && ag_kind (ag_upp A) 1) := rfl
      rw [e0] at ei
      simpa using ei
    obtain ⟨v, hv⟩ := kind_int hd.2
    have e := hrG_at h hd.1
    have e2 : A.2.1.getD (A.2.1.length - 1 - 0) (.inl 0) = .inl v := hv
    rw [e2] at e
    have hb : ag_bnd 13 y A = (decide (0 ≤ v) && decide (v ≤ 20)) := by
      show (decide (0 ≤ ag_int (ag_upp A)) && decide (ag_int (ag_upp A) ≤ 20)) = _
      rw [hv]
      rfl
    by_cases g1 : v < 0
    · rw [show (true && ag_bnd 13 y A) = false by rw [hb, decide_eq_false (Int32.not_le.mpr g1)]; rfl]
      exact rc_upto_neg hn hR hg h.2.1 ok.1 hd.1 (by decide) e hi g1
    · by_cases g2 : nI 20 < v
      · have g3 : ¬ (v ≤ 20) := fun q => absurd (Int32.lt_iff_toInt_lt.mp g2) (by have := Int32.le_iff_toInt_le.mp q; have e3 : (nI 20).toInt = 20 := (by decide); have e4 : (20 : Int32).toInt = 20 := (by decide); omega)
        rw [show (true && ag_bnd 13 y A) = false by rw [hb, decide_eq_false g3, Bool.and_false]; rfl]
        exact rc_upto_big hn hR hg h.2.1 ok.1 hd.1 (by decide) e hi g1 g2
      · have g3 : v ≤ 20 := Int32.le_iff_toInt_le.mpr (by have g4 := Int32.le_iff_toInt_le.mp (Int32.not_lt.mp g2); have e3 : (nI 20).toInt = 20 := (by decide); have e4 : (20 : Int32).toInt = 20 := (by decide); omega)
        rw [show (true && ag_bnd 13 y A) = true by rw [hb, decide_eq_true (Int32.not_lt.mp g1), decide_eq_true g3]; rfl]
        exact rc_upto_ok hn hR hg h.2.1 ok.1 hd.1 (by decide) e hi g1 g2
theorem can_len {A : ag_T} (hc : ag_can A = A) : (bf_seq (ag_fn A.2.2) (A.2.1.foldl bf_see []) 9).length = A.2.2.length := by
  have e : (ag_can A).2.2.length = A.2.2.length := by rw [hc]
  rw [← e, ← ord_seq]
  exact (List.length_map _).symm
theorem rc_isFit {l : Launch} {b : Nat} {x : Nat → Nat} {D : va_G} {dA : Nat → ClassId} {gi c y n : Nat} {F : Nat → Prop} {A : ag_T} {g : Nat → Nat} {M : fm_M} (hn : 629 ≤ n) (hR : fm_RP M) (hg : gi < 98) (h : hr_G M gi F A g) (ok : ag_ok A) (hca : ag_can A = A) (hF : F 5) (hs5 : A.1 5 < 1000) (hc20 : c < 20) (hy : y < 256) : Met l y_Mo_isFit (Cond.code y_Mo_isFit b_Mo_isFit 4 (some .boolean) :: fm_T0) ({ frames := 3, cells := 0, slots := 0, locals := 80 }) (fm_Pc fm_lay fm_nf fm_fk fm_cl b x D dA (fm_tys dA) (fm_EX b x) false [.ref 586, .int (nI gi), .int (nI c), .int (nI y)] n M) (fm_Qc fm_lay fm_nf fm_fk fm_cl b x D dA (fun r n' M' => r = some (.int (nI (if ag_takes c A && ag_bnd c y A then 1 else 0))) ∧ n' = n ∧ fr_K M M')) 0 0 (fm_A b) := by
  have hi0 := rc_isIntA (j := 0) (l := l) (b := b) (x := x) (D := D) (dA := dA) hn hR hg (by decide) h ok
  have hi1 := rc_isIntA (j := 1) (l := l) (b := b) (x := x) (D := D) (dA := dA) hn hR hg (by decide) h ok
  have hd := h.2.1
  have h6 := ok.1
  have W : ∀ (c : Nat) (r0 : Nat) (q : Bool), (ag_takes c A && ag_bnd c y A) = q → r0 = (if q then 1 else 0) → Met l y_Mo_isFit (Cond.code y_Mo_isFit b_Mo_isFit 4 (some .boolean) :: fm_T0) ({ frames := 3, cells := 0, slots := 0, locals := 80 }) (fm_Pc fm_lay fm_nf fm_fk fm_cl b x D dA (fm_tys dA) (fm_EX b x) false [.ref 586, .int (nI gi), .int (nI c), .int (nI y)] n M) (fm_Qc fm_lay fm_nf fm_fk fm_cl b x D dA (fun r n' M' => r = some (.int (nI r0)) ∧ n' = n ∧ M' = M)) 0 0 (fm_A b) → Met l y_Mo_isFit (Cond.code y_Mo_isFit b_Mo_isFit 4 (some .boolean) :: fm_T0) ({ frames := 3, cells := 0, slots := 0, locals := 80 }) (fm_Pc fm_lay fm_nf fm_fk fm_cl b x D dA (fm_tys dA) (fm_EX b x) false [.ref 586, .int (nI gi), .int (nI c), .int (nI y)] n M) (fm_Qc fm_lay fm_nf fm_fk fm_cl b x D dA (fun r n' M' => r = some (.int (nI (if ag_takes c A && ag_bnd c y A then 1 else 0))) ∧ n' = n ∧ fr_K M M')) 0 0 (fm_A b) := by
    intro c r0 q e e2 k
    refine fm_post k (fun r1 n1 M1 hp => ⟨?_, hp.2.1, ?_⟩)
    · rw [hp.1, e, e2]
    · rw [hp.2.2]
      exact frK_rf M
  rcases (show c = 0 ∨ c = 1 ∨ c = 2 ∨ c = 3 ∨ c = 4 ∨ c = 5 ∨ c = 6 ∨ c = 7 ∨ c = 8 ∨ c = 9 ∨ c = 10 ∨ c = 11 ∨ c = 12 ∨ c = 13 ∨ c = 14 ∨ c = 15 ∨ c = 16 ∨ c = 17 ∨ c = 18 ∨ c = 19 by omega) with rfl | rfl | rfl | rfl | rfl | rfl | rfl | rfl | rfl | rfl | rfl | rfl | rfl | rfl | rfl | rfl | rfl | rfl | rfl | rfl
  · exact W 0 1 true ((fit_0 h6).trans (rfl)) rfl (rf_0 hn hR hg hd h6)
  · by_cases g1 : A.2.1.length < 6
    · exact W 1 1 true ((fit_1 h6).trans (decide_eq_true g1)) rfl (rf_1 hn hR hg hd h6 g1)
    · exact W 1 0 false ((fit_1 h6).trans (decide_eq_false g1)) rfl (rf_1n hn hR hg hd h6 (by omega))
  · cases e0 : ag_ii 0 A with
    | false =>
      rw [e0] at hi0
      exact W 2 0 false ((fit_2 h6).trans (by rw [e0]; rfl)) rfl (rf_2n hn hR hg hd h6 hi0)
    | true =>
      rw [e0] at hi0
      cases e1 : ag_ii 1 A with
      | false =>
        rw [e1] at hi1
        exact W 2 0 false ((fit_2 h6).trans (by rw [e0, e1]; rfl)) rfl (rf_2m hn hR hg hd h6 hi0 hi1)
      | true =>
        rw [e1] at hi1
        exact W 2 1 true ((fit_2 h6).trans (by rw [e0, e1]; rfl)) rfl (rf_2 hn hR hg hd h6 hi0 hi1)
  · cases e0 : ag_ii 0 A with
    | false =>
      rw [e0] at hi0
      exact W 3 0 false ((fit_3 h6).trans (by rw [e0]; rfl)) rfl (rf_3n hn hR hg hd h6 hi0)
    | true =>
      rw [e0] at hi0
      cases e1 : ag_ii 1 A with
      | false =>
        rw [e1] at hi1
        exact W 3 0 false ((fit_3 h6).trans (by rw [e0, e1]; rfl)) rfl (rf_3m hn hR hg hd h6 hi0 hi1)
      | true =>
        rw [e1] at hi1
        exact W 3 1 true ((fit_3 h6).trans (by rw [e0, e1]; rfl)) rfl (rf_3 hn hR hg hd h6 hi0 hi1)
  · cases e0 : ag_ii 0 A with
    | false =>
      rw [e0] at hi0
      exact W 4 0 false ((fit_4 h6).trans (by rw [e0]; rfl)) rfl (rf_4n hn hR hg hd h6 hi0)
    | true =>
      rw [e0] at hi0
      cases e1 : ag_ii 1 A with
      | false =>
        rw [e1] at hi1
        exact W 4 0 false ((fit_4 h6).trans (by rw [e0, e1]; rfl)) rfl (rf_4m hn hR hg hd h6 hi0 hi1)
      | true =>
        rw [e1] at hi1
        exact W 4 1 true ((fit_4 h6).trans (by rw [e0, e1]; rfl)) rfl (rf_4 hn hR hg hd h6 hi0 hi1)
  · by_cases g1 : y < A.2.1.length
    · by_cases g2 : A.2.1.length < 6
      · exact W 5 1 true ((fit_5 h6).trans (by rw [decide_eq_true g1, decide_eq_true g2]; rfl)) rfl (rf_5 hn hR hg hd h6 hy g1 g2)
      · exact W 5 0 false ((fit_5 h6).trans (by rw [decide_eq_false g2, Bool.and_false])) rfl (rf_5m hn hR hg hd h6 hy g1 (by omega))
    · exact W 5 0 false ((fit_5 h6).trans (by rw [decide_eq_false g1]; rfl)) rfl (rf_5n hn hR hg hd h6 hy (by omega))
  · by_cases g1 : 0 < A.2.1.length
    · exact W 6 1 true ((fit_6 h6).trans (decide_eq_true g1)) rfl (rf_6 hn hR hg hd h6 g1)
    · exact W 6 0 false ((fit_6 h6).trans (decide_eq_false g1)) rfl (rf_6n hn hR hg hd h6 (by omega))
  · by_cases g1 : y < 8
    · by_cases g2 : A.2.1.length < 6
      · exact W 7 1 true ((fit_7 h6).trans (by rw [decide_eq_true g1, decide_eq_true g2]; rfl)) rfl (rf_7 hn hR hg hd h6 hy g1 g2)
      · exact W 7 0 false ((fit_7 h6).trans (by rw [decide_eq_false g2, Bool.and_false])) rfl (rf_7m hn hR hg hd h6 hy g1 (by omega))
    · exact W 7 0 false ((fit_7 h6).trans (by rw [decide_eq_false g1]; rfl)) rfl (rf_7n hn hR hg hd h6 hy (by omega))
  · cases e0 : ag_ii 0 A with
    | false =>
      rw [e0] at hi0
      exact W 8 0 false ((fit_8 h6).trans (by rw [e0]; rfl)) rfl (rf_8n hn hR hg hd h6 hi0)
    | true =>
      rw [e0] at hi0
      by_cases g1 : A.1 5 < 16
      · exact W 8 1 true ((fit_8 h6).trans (by rw [e0, decide_eq_true g1]; rfl)) rfl (rf_8 hn hR hg hd h6 (h.1 5 (by decide) (by decide) hF) hs5 hi0 g1)
      · exact W 8 0 false ((fit_8 h6).trans (by rw [e0, decide_eq_false g1]; rfl)) rfl (rf_8m hn hR hg hd h6 (h.1 5 (by decide) (by decide) hF) hs5 hi0 (by omega))
  · have hu := rc_upA_9 (y := y) (l := l) (b := b) (x := x) (D := D) (dA := dA) hn hR hg h ok
    cases e0 : (ag_ii 0 A && ag_bnd 9 y A) with
    | false =>
      rw [e0] at hu
      exact W 9 0 false ((fit_9 h6).trans (e0)) rfl (rf_9n hn hR hg hd h6 hu)
    | true =>
      rw [e0] at hu
      exact W 9 1 true ((fit_9 h6).trans (e0)) rfl (rf_9 hn hR hg hd h6 hu)
  · exact W 10 1 true ((fit_10 h6).trans (rfl)) rfl (rf_10 hn hR hg hd h6)
  · cases e0 : ag_ii 0 A with
    | false =>
      rw [e0] at hi0
      exact W 11 0 false ((fit_11 h6).trans (e0)) rfl (rf_11n hn hR hg hd h6 hi0)
    | true =>
      rw [e0] at hi0
      exact W 11 1 true ((fit_11 h6).trans (e0)) rfl (rf_11 hn hR hg hd h6 hi0)
  · cases e0 : ag_ii 0 A with
    | false =>
      rw [e0] at hi0
      exact W 12 0 false ((fit_12 h6).trans (e0)) rfl (rf_12n hn hR hg hd h6 hi0)
    | true =>
      rw [e0] at hi0
      exact W 12 1 true ((fit_12 h6).trans (e0)) rfl (rf_12 hn hR hg hd h6 hi0)
  · have hu := rc_upA_13 (y := y) (l := l) (b := b) (x := x) (D := D) (dA := dA) hn hR hg h ok
    cases e0 : (ag_ii 0 A && ag_bnd 13 y A) with
    | false =>
      rw [e0] at hu
      exact W 13 0 false ((fit_13 h6).trans (e0)) rfl (rf_13n hn hR hg hd h6 hu)
    | true =>
      rw [e0] at hu
      exact W 13 1 true ((fit_13 h6).trans (e0)) rfl (rf_13 hn hR hg hd h6 hu)
  · by_cases g1 : 1 < A.2.1.length
    · have hre := rc_reach (l := l) (b := b) (x := x) (D := D) (dA := dA) hn hR hg h ok
      rw [can_len hca] at hre
      have h8 := ok.2.1
      by_cases g2 : A.2.2.length < 8
      · rw [show (ag_takes 14 A && ag_bnd 14 y A) = true from (fit_14 h6).trans (by rw [decide_eq_true g1, decide_eq_true g2]; rfl)]
        exact fm_post (rf_14 hn hR hg hd h6 g1 (by omega) g2 hre) (fun r1 n1 M1 hp => ⟨hp.1, hp.2.1, hp.2.2.2⟩)
      · rw [show (ag_takes 14 A && ag_bnd 14 y A) = false from (fit_14 h6).trans (by rw [decide_eq_false g2, Bool.and_false])]
        exact fm_post (rf_14m hn hR hg hd h6 g1 (by omega) (by omega) hre) (fun r1 n1 M1 hp => ⟨hp.1, hp.2.1, hp.2.2.2⟩)
    · exact W 14 0 false ((fit_14 h6).trans (by rw [decide_eq_false g1]; rfl)) rfl (rf_14n hn hR hg hd h6 (by omega))
  · by_cases g1 : 0 < A.2.1.length
    · cases e0 : ag_ii 0 A with
      | false =>
        rw [e0] at hi0
        exact W 15 1 true ((fit_15 h6).trans (by rw [e0, decide_eq_true g1]; rfl)) rfl (rf_15 hn hR hg hd h6 g1 hi0)
      | true =>
        rw [e0] at hi0
        exact W 15 0 false ((fit_15 h6).trans (by rw [e0, Bool.not_true, Bool.and_false])) rfl (rf_15m hn hR hg hd h6 g1 hi0)
    · exact W 15 0 false ((fit_15 h6).trans (by rw [decide_eq_false g1]; rfl)) rfl (rf_15n hn hR hg hd h6 (by omega))
  · by_cases g1 : 0 < A.2.1.length
    · cases e0 : ag_ii 0 A with
      | false =>
        rw [e0] at hi0
        exact W 16 1 true ((fit_16 h6).trans (by rw [e0, decide_eq_true g1]; rfl)) rfl (rf_16 hn hR hg hd h6 g1 hi0)
      | true =>
        rw [e0] at hi0
        exact W 16 0 false ((fit_16 h6).trans (by rw [e0, Bool.not_true, Bool.and_false])) rfl (rf_16m hn hR hg hd h6 g1 hi0)
    · exact W 16 0 false ((fit_16 h6).trans (by rw [decide_eq_false g1]; rfl)) rfl (rf_16n hn hR hg hd h6 (by omega))
  · by_cases g1 : 1 < A.2.1.length
    · cases e0 : ag_ii 1 A with
      | false =>
        rw [e0] at hi1
        exact W 17 1 true ((fit_17 h6).trans (by rw [e0, decide_eq_true g1]; rfl)) rfl (rf_17 hn hR hg hd h6 g1 hi1)
      | true =>
        rw [e0] at hi1
        exact W 17 0 false ((fit_17 h6).trans (by rw [e0, Bool.not_true, Bool.and_false])) rfl (rf_17m hn hR hg hd h6 g1 hi1)
    · exact W 17 0 false ((fit_17 h6).trans (by rw [decide_eq_false g1]; rfl)) rfl (rf_17n hn hR hg hd h6 (by omega))
  · by_cases g1 : 1 < A.2.1.length
    · cases e0 : ag_ii 1 A with
      | false =>
        rw [e0] at hi1
        exact W 18 1 true ((fit_18 h6).trans (by rw [e0, decide_eq_true g1]; rfl)) rfl (rf_18 hn hR hg hd h6 g1 hi1)
      | true =>
        rw [e0] at hi1
        exact W 18 0 false ((fit_18 h6).trans (by rw [e0, Bool.not_true, Bool.and_false])) rfl (rf_18m hn hR hg hd h6 g1 hi1)
    · exact W 18 0 false ((fit_18 h6).trans (by rw [decide_eq_false g1]; rfl)) rfl (rf_18n hn hR hg hd h6 (by omega))
  · by_cases g1 : 1 < A.2.1.length
    · exact W 19 1 true ((fit_19 h6).trans (decide_eq_true g1)) rfl (rf_19 hn hR hg hd h6 g1)
    · exact W 19 0 false ((fit_19 h6).trans (decide_eq_false g1)) rfl (rf_19n hn hR hg hd h6 (by omega))
