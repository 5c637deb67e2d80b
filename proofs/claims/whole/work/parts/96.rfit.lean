/-! THE REFERENCE: isFit -/
def ag_ii (j : Nat) (A : ag_T) : Bool := decide (j < A.2.1.length) && ag_kind (A.2.1.getD (A.2.1.length - 1 - j) (.inl 0)) 1
theorem map_kind (g : Nat → Nat) (v : bf_V) (k : Nat) : ag_kind (bf_map g v) k = ag_kind v k := by cases v <;> rfl
theorem hrG_at {M : fm_M} {gi j : Nat} {F : Nat → Prop} {A : ag_T} {g : Nat → Nat} (h : hr_G M gi F A g) (hj : j < A.2.1.length) : M.2.1 613 (6 * gi + A.2.1.length - 1 - j) = e64 (bf_map g (A.2.1.getD (A.2.1.length - 1 - j) (.inl 0))) := by
  rw [show 6 * gi + A.2.1.length - 1 - j = 6 * gi + (A.2.1.length - 1 - j) by omega]
  exact h.2.2.2.2.1 _ _ (getD_mem (by omega)).1
theorem map_ok {gi : Nat} {M : fm_M} {F : Nat → Prop} {A : ag_T} {g : Nat → Nat} (h : hr_G M gi F A g) {v : bf_V} (hv : ag_in A.2.2.length v) : e_ok (bf_map g v) := by
  cases v with
  | inl y => trivial
  | inr k => exact Nat.lt_trans (h.2.2.1 k hv) (by decide)
theorem rc_isIntA {l : Launch} {b : Nat} {x : Nat → Nat} {D : va_G} {dA : Nat → ClassId} {gi j n : Nat} {F : Nat → Prop} {A : ag_T} {g : Nat → Nat} {M : fm_M} (hn : 629 ≤ n) (hR : fm_RP M) (hg : gi < 98) (hj : j < 10) (h : hr_G M gi F A g) (ok : ag_ok A) : Met l y_Mo_isInt (Cond.code y_Mo_isInt b_Mo_isInt 3 (some .boolean) :: fm_T0) ({ frames := 1, cells := 0, slots := 0, locals := 25 }) (fm_Pc fm_lay fm_nf fm_fk fm_cl b x D dA (fm_tys dA) (fm_EX b x) false [.ref 586, .int (nI gi), .int (nI j)] n M) (fm_Qc fm_lay fm_nf fm_fk fm_cl b x D dA (fun r n' M' => r = some (.int (nI (if ag_ii j A then 1 else 0))) ∧ n' = n ∧ M' = M)) 0 0 (fm_A b) := by
  by_cases hd : j < A.2.1.length
  · have e := hrG_at h hd
    have hm := map_ok h (ok.2.2.1 _ (getD_mem (s := A.2.1) (k := A.2.1.length - 1 - j) (by omega)).2)
    cases hv : A.2.1.getD (A.2.1.length - 1 - j) (.inl 0) with
    | inl y =>
      have e1 : ag_ii j A = true := by unfold ag_ii; rw [hv]; simp [hd, ag_kind]
      rw [if_pos e1]
      rw [hv] at e
      exact rc_isInt_int hn hR hg h.2.1 ok.1 hd (by rw [e]; exact vx_int y)
    | inr k =>
      have e1 : ag_ii j A = false := by unfold ag_ii; rw [hv]; simp [ag_kind]
      rw [e1]
      rw [hv] at e hm
      exact rc_isInt_pair hn hR hg h.2.1 ok.1 hd (by rw [e]; exact vx_pair (g k) hm)
  · have e1 : ag_ii j A = false := by simp [ag_ii, hd]
    rw [e1]
    exact rc_isInt_few hn hR hg h.2.1 ok.1 hj (by omega)
theorem rf_0 {l : Launch} {b : Nat} {x : Nat → Nat} {D : va_G} {dA : Nat → ClassId} {gi y d : Nat} {n : Nat} {M : fm_M} (hn : 629 ≤ n) (hR : fm_RP M) (hg : gi < 98) (hd : M.1 612 gi = nI d) (hd6 : d ≤ 6) : Met l y_Mo_isFit (Cond.code y_Mo_isFit b_Mo_isFit 4 (some .boolean) :: fm_T0) ({ frames := 3, cells := 0, slots := 0, locals := 80 }) (fm_Pc fm_lay fm_nf fm_fk fm_cl b x D dA (fm_tys dA) (fm_EX b x) false [.ref 586, .int (nI gi), .int (nI 0), .int (nI y)] n M) (fm_Qc fm_lay fm_nf fm_fk fm_cl b x D dA (fun r n' M' => r = some (.int (nI 1)) ∧ n' = n ∧ M' = M)) 0 0 (fm_A b) := by
  refine fm_enter (by decide) (Nat.le_of_ble_eq_true rfl) ?_
  intro p e s m args below meth c9 hc hr hnm hex htg
  refine fm_iload_n hc d_Mo_isFit_0 rfl rfl ?_
  refine fm_tableIn (off := 91) (tgt := 92) hc d_Mo_isFit_1 (by decide) (by decide) rfl rfl ?_
  refine fm_iconst (v := nI 1) hc d_Mo_isFit_92 rfl ?_
  exact fm_zret (ty := .boolean) hc hr (by first | rfl | decide) d_Mo_isFit_93 (Nat.le_refl _) (Nat.le_refl _) ⟨rfl, rfl, rfl⟩
theorem rf_10 {l : Launch} {b : Nat} {x : Nat → Nat} {D : va_G} {dA : Nat → ClassId} {gi y d : Nat} {n : Nat} {M : fm_M} (hn : 629 ≤ n) (hR : fm_RP M) (hg : gi < 98) (hd : M.1 612 gi = nI d) (hd6 : d ≤ 6) : Met l y_Mo_isFit (Cond.code y_Mo_isFit b_Mo_isFit 4 (some .boolean) :: fm_T0) ({ frames := 3, cells := 0, slots := 0, locals := 80 }) (fm_Pc fm_lay fm_nf fm_fk fm_cl b x D dA (fm_tys dA) (fm_EX b x) false [.ref 586, .int (nI gi), .int (nI 10), .int (nI y)] n M) (fm_Qc fm_lay fm_nf fm_fk fm_cl b x D dA (fun r n' M' => r = some (.int (nI 1)) ∧ n' = n ∧ M' = M)) 0 0 (fm_A b) := by
  refine fm_enter (by decide) (Nat.le_of_ble_eq_true rfl) ?_
  intro p e s m args below meth c9 hc hr hnm hex htg
  refine fm_iload_n hc d_Mo_isFit_0 rfl rfl ?_
  refine fm_tableIn (off := 91) (tgt := 92) hc d_Mo_isFit_1 (by decide) (by decide) rfl rfl ?_
  refine fm_iconst (v := nI 1) hc d_Mo_isFit_92 rfl ?_
  exact fm_zret (ty := .boolean) hc hr (by first | rfl | decide) d_Mo_isFit_93 (Nat.le_refl _) (Nat.le_refl _) ⟨rfl, rfl, rfl⟩
theorem rf_1 {l : Launch} {b : Nat} {x : Nat → Nat} {D : va_G} {dA : Nat → ClassId} {gi y d : Nat} {n : Nat} {M : fm_M} (hn : 629 ≤ n) (hR : fm_RP M) (hg : gi < 98) (hd : M.1 612 gi = nI d) (hd6 : d ≤ 6) (h1 : d < 6) : Met l y_Mo_isFit (Cond.code y_Mo_isFit b_Mo_isFit 4 (some .boolean) :: fm_T0) ({ frames := 3, cells := 0, slots := 0, locals := 80 }) (fm_Pc fm_lay fm_nf fm_fk fm_cl b x D dA (fm_tys dA) (fm_EX b x) false [.ref 586, .int (nI gi), .int (nI 1), .int (nI y)] n M) (fm_Qc fm_lay fm_nf fm_fk fm_cl b x D dA (fun r n' M' => r = some (.int (nI 1)) ∧ n' = n ∧ M' = M)) 0 0 (fm_A b) := by
  refine fm_enter (by decide) (Nat.le_of_ble_eq_true rfl) ?_
  intro p e s m args below meth c9 hc hr hnm hex htg
  refine fm_iload_n hc d_Mo_isFit_0 rfl rfl ?_
  refine fm_tableIn (off := 93) (tgt := 94) hc d_Mo_isFit_1 (by decide) (by decide) rfl rfl ?_
  refine fm_aload_n hc d_Mo_isFit_94 rfl rfl ?_
  refine fm_getR (k := 27) (q := 612) hc K_Mo d_Mo_isFit_95 q_912 rfl (by decide) (by omega) (by decide) (by decide) (by decide) rfl (rp_size hR) ?_
  refine fm_iload_n hc d_Mo_isFit_98 rfl rfl ?_
  refine fm_iald (j := gi) (len := 98) hc 0 d_Mo_isFit_99 (by decide) (by omega) (by decide) rfl (by omega) (by decide) ?_
  refine fm_top (congrArg Value.int hd) ?_
  refine fm_bipush (v := nI 6) hc d_Mo_isFit_100 rfl ?_
  refine fm_icmp_ge (tgt := 109) hc d_Mo_isFit_102 rfl (fun g => absurd g (hnle (a := 6) (c := d) h1 (by omega))) (fun _ => ?_)
  refine fm_iconst (v := nI 1) hc d_Mo_isFit_105 rfl ?_
  refine fm_goto (tgt := 110) hc d_Mo_isFit_106 rfl ?_
  exact fm_zret (ty := .boolean) hc hr (by first | rfl | decide) d_Mo_isFit_110 (Nat.le_refl _) (Nat.le_refl _) ⟨rfl, rfl, rfl⟩
theorem rf_1n {l : Launch} {b : Nat} {x : Nat → Nat} {D : va_G} {dA : Nat → ClassId} {gi y d : Nat} {n : Nat} {M : fm_M} (hn : 629 ≤ n) (hR : fm_RP M) (hg : gi < 98) (hd : M.1 612 gi = nI d) (hd6 : d ≤ 6) (h1 : 6 ≤ d) : Met l y_Mo_isFit (Cond.code y_Mo_isFit b_Mo_isFit 4 (some .boolean) :: fm_T0) ({ frames := 3, cells := 0, slots := 0, locals := 80 }) (fm_Pc fm_lay fm_nf fm_fk fm_cl b x D dA (fm_tys dA) (fm_EX b x) false [.ref 586, .int (nI gi), .int (nI 1), .int (nI y)] n M) (fm_Qc fm_lay fm_nf fm_fk fm_cl b x D dA (fun r n' M' => r = some (.int (nI 0)) ∧ n' = n ∧ M' = M)) 0 0 (fm_A b) := by
  refine fm_enter (by decide) (Nat.le_of_ble_eq_true rfl) ?_
  intro p e s m args below meth c9 hc hr hnm hex htg
  refine fm_iload_n hc d_Mo_isFit_0 rfl rfl ?_
  refine fm_tableIn (off := 93) (tgt := 94) hc d_Mo_isFit_1 (by decide) (by decide) rfl rfl ?_
  refine fm_aload_n hc d_Mo_isFit_94 rfl rfl ?_
  refine fm_getR (k := 27) (q := 612) hc K_Mo d_Mo_isFit_95 q_912 rfl (by decide) (by omega) (by decide) (by decide) (by decide) rfl (rp_size hR) ?_
  refine fm_iload_n hc d_Mo_isFit_98 rfl rfl ?_
  refine fm_iald (j := gi) (len := 98) hc 0 d_Mo_isFit_99 (by decide) (by omega) (by decide) rfl (by omega) (by decide) ?_
  refine fm_top (congrArg Value.int hd) ?_
  refine fm_bipush (v := nI 6) hc d_Mo_isFit_100 rfl ?_
  refine fm_icmp_ge (tgt := 109) hc d_Mo_isFit_102 rfl (fun _ => ?_) (fun g => absurd (nI_le h1 (by omega)) g)
  refine fm_iconst (v := nI 0) hc d_Mo_isFit_109 rfl ?_
  exact fm_zret (ty := .boolean) hc hr (by first | rfl | decide) d_Mo_isFit_110 (Nat.le_refl _) (Nat.le_refl _) ⟨rfl, rfl, rfl⟩
theorem rf_2 {l : Launch} {b : Nat} {x : Nat → Nat} {D : va_G} {dA : Nat → ClassId} {gi y d : Nat} {n : Nat} {M : fm_M} (hn : 629 ≤ n) (hR : fm_RP M) (hg : gi < 98) (hd : M.1 612 gi = nI d) (hd6 : d ≤ 6) (h0 : Met l y_Mo_isInt (Cond.code y_Mo_isInt b_Mo_isInt 3 (some .boolean) :: fm_T0) ({ frames := 1, cells := 0, slots := 0, locals := 25 }) (fm_Pc fm_lay fm_nf fm_fk fm_cl b x D dA (fm_tys dA) (fm_EX b x) false [.ref 586, .int (nI gi), .int (nI 0)] n M) (fm_Qc fm_lay fm_nf fm_fk fm_cl b x D dA (fun r n' M' => r = some (.int (nI 1)) ∧ n' = n ∧ M' = M)) 0 0 (fm_A b)) (h1 : Met l y_Mo_isInt (Cond.code y_Mo_isInt b_Mo_isInt 3 (some .boolean) :: fm_T0) ({ frames := 1, cells := 0, slots := 0, locals := 25 }) (fm_Pc fm_lay fm_nf fm_fk fm_cl b x D dA (fm_tys dA) (fm_EX b x) false [.ref 586, .int (nI gi), .int (nI 1)] n M) (fm_Qc fm_lay fm_nf fm_fk fm_cl b x D dA (fun r n' M' => r = some (.int (nI 1)) ∧ n' = n ∧ M' = M)) 0 0 (fm_A b)) : Met l y_Mo_isFit (Cond.code y_Mo_isFit b_Mo_isFit 4 (some .boolean) :: fm_T0) ({ frames := 3, cells := 0, slots := 0, locals := 80 }) (fm_Pc fm_lay fm_nf fm_fk fm_cl b x D dA (fm_tys dA) (fm_EX b x) false [.ref 586, .int (nI gi), .int (nI 2), .int (nI y)] n M) (fm_Qc fm_lay fm_nf fm_fk fm_cl b x D dA (fun r n' M' => r = some (.int (nI 1)) ∧ n' = n ∧ M' = M)) 0 0 (fm_A b) := by
  refine fm_enter (by decide) (Nat.le_of_ble_eq_true rfl) ?_
  intro p e s m args below meth c9 hc hr hnm hex htg
  refine fm_iload_n hc d_Mo_isFit_0 rfl rfl ?_
  refine fm_tableIn (off := 110) (tgt := 111) hc d_Mo_isFit_1 (by decide) (by decide) rfl rfl ?_
  refine fm_aload_n hc d_Mo_isFit_111 rfl rfl ?_
  refine fm_iload_n hc d_Mo_isFit_112 rfl rfl ?_
  refine fm_iconst (v := nI 0) hc d_Mo_isFit_113 rfl ?_
  refine fm_callV (av := [.int (nI gi), .int (nI 0)]) (rest := []) (ob := 586) (ci := 11) (r0 := ("AgentNetModel", F_Mo, 51)) (y := y_Mo_isInt) (bytes := b_Mo_isInt) hc fm_T0_good (fm_EX_st b x) hex q_1093 q_13 q_1090 q_1092 qs_Mo_isInt pd_Mo_isInt (by decide) (by omega) (by decide) (by decide) rfl rfl (h0) ⟨rfl, rfl, Nat.le_of_ble_eq_true rfl, Nat.le_of_ble_eq_true rfl⟩ ⟨Nat.le_of_ble_eq_true rfl, Nat.le_of_ble_eq_true rfl⟩ d_Mo_isFit_114 (Nat.le_of_ble_eq_true rfl) (fun r n2 M2 hp => ?_)
  obtain ⟨rfl, hq1, hq2⟩ := hp
  replace hq1 := hq1.symm
  replace hq2 := hq2.symm
  subst hq1 hq2
  refine fm_cnt (z' := (0, 0)) rfl (fm_st (st' := [.int (nI 1)]) rfl ?_)
  refine fm_if_eq (tgt := 133) hc d_Mo_isFit_117 rfl (fun g => absurd g (by decide)) (fun _ => ?_)
  refine fm_aload_n hc d_Mo_isFit_120 rfl rfl ?_
  refine fm_iload_n hc d_Mo_isFit_121 rfl rfl ?_
  refine fm_iconst (v := nI 1) hc d_Mo_isFit_122 rfl ?_
  refine fm_callV (av := [.int (nI gi), .int (nI 1)]) (rest := []) (ob := 586) (ci := 11) (r0 := ("AgentNetModel", F_Mo, 51)) (y := y_Mo_isInt) (bytes := b_Mo_isInt) hc fm_T0_good (fm_EX_st b x) hex q_1093 q_13 q_1090 q_1092 qs_Mo_isInt pd_Mo_isInt (by decide) (by omega) (by decide) (by decide) rfl rfl (h1) ⟨rfl, rfl, Nat.le_of_ble_eq_true rfl, Nat.le_of_ble_eq_true rfl⟩ ⟨Nat.le_of_ble_eq_true rfl, Nat.le_of_ble_eq_true rfl⟩ d_Mo_isFit_123 (Nat.le_of_ble_eq_true rfl) (fun r n2 M2 hp => ?_)
  obtain ⟨rfl, hq1, hq2⟩ := hp
  replace hq1 := hq1.symm
  replace hq2 := hq2.symm
  subst hq1 hq2
  refine fm_cnt (z' := (0, 0)) rfl (fm_st (st' := [.int (nI 1)]) rfl ?_)
  refine fm_if_eq (tgt := 133) hc d_Mo_isFit_126 rfl (fun g => absurd g (by decide)) (fun _ => ?_)
  refine fm_iconst (v := nI 1) hc d_Mo_isFit_129 rfl ?_
  refine fm_goto (tgt := 134) hc d_Mo_isFit_130 rfl ?_
  exact fm_zret (ty := .boolean) hc hr (by first | rfl | decide) d_Mo_isFit_134 (Nat.le_refl _) (Nat.le_refl _) ⟨rfl, rfl, rfl⟩
theorem rf_2n {l : Launch} {b : Nat} {x : Nat → Nat} {D : va_G} {dA : Nat → ClassId} {gi y d : Nat} {n : Nat} {M : fm_M} (hn : 629 ≤ n) (hR : fm_RP M) (hg : gi < 98) (hd : M.1 612 gi = nI d) (hd6 : d ≤ 6) (h0 : Met l y_Mo_isInt (Cond.code y_Mo_isInt b_Mo_isInt 3 (some .boolean) :: fm_T0) ({ frames := 1, cells := 0, slots := 0, locals := 25 }) (fm_Pc fm_lay fm_nf fm_fk fm_cl b x D dA (fm_tys dA) (fm_EX b x) false [.ref 586, .int (nI gi), .int (nI 0)] n M) (fm_Qc fm_lay fm_nf fm_fk fm_cl b x D dA (fun r n' M' => r = some (.int (nI 0)) ∧ n' = n ∧ M' = M)) 0 0 (fm_A b)) : Met l y_Mo_isFit (Cond.code y_Mo_isFit b_Mo_isFit 4 (some .boolean) :: fm_T0) ({ frames := 3, cells := 0, slots := 0, locals := 80 }) (fm_Pc fm_lay fm_nf fm_fk fm_cl b x D dA (fm_tys dA) (fm_EX b x) false [.ref 586, .int (nI gi), .int (nI 2), .int (nI y)] n M) (fm_Qc fm_lay fm_nf fm_fk fm_cl b x D dA (fun r n' M' => r = some (.int (nI 0)) ∧ n' = n ∧ M' = M)) 0 0 (fm_A b) := by
  refine fm_enter (by decide) (Nat.le_of_ble_eq_true rfl) ?_
  intro p e s m args below meth c9 hc hr hnm hex htg
  refine fm_iload_n hc d_Mo_isFit_0 rfl rfl ?_
  refine fm_tableIn (off := 110) (tgt := 111) hc d_Mo_isFit_1 (by decide) (by decide) rfl rfl ?_
  refine fm_aload_n hc d_Mo_isFit_111 rfl rfl ?_
  refine fm_iload_n hc d_Mo_isFit_112 rfl rfl ?_
  refine fm_iconst (v := nI 0) hc d_Mo_isFit_113 rfl ?_
  refine fm_callV (av := [.int (nI gi), .int (nI 0)]) (rest := []) (ob := 586) (ci := 11) (r0 := ("AgentNetModel", F_Mo, 51)) (y := y_Mo_isInt) (bytes := b_Mo_isInt) hc fm_T0_good (fm_EX_st b x) hex q_1093 q_13 q_1090 q_1092 qs_Mo_isInt pd_Mo_isInt (by decide) (by omega) (by decide) (by decide) rfl rfl (h0) ⟨rfl, rfl, Nat.le_of_ble_eq_true rfl, Nat.le_of_ble_eq_true rfl⟩ ⟨Nat.le_of_ble_eq_true rfl, Nat.le_of_ble_eq_true rfl⟩ d_Mo_isFit_114 (Nat.le_of_ble_eq_true rfl) (fun r n2 M2 hp => ?_)
  obtain ⟨rfl, hq1, hq2⟩ := hp
  replace hq1 := hq1.symm
  replace hq2 := hq2.symm
  subst hq1 hq2
  refine fm_cnt (z' := (0, 0)) rfl (fm_st (st' := [.int (nI 0)]) rfl ?_)
  refine fm_if_eq (tgt := 133) hc d_Mo_isFit_117 rfl (fun _ => ?_) (fun g => absurd (by decide) g)
  refine fm_iconst (v := nI 0) hc d_Mo_isFit_133 rfl ?_
  exact fm_zret (ty := .boolean) hc hr (by first | rfl | decide) d_Mo_isFit_134 (Nat.le_refl _) (Nat.le_refl _) ⟨rfl, rfl, rfl⟩
theorem rf_2m {l : Launch} {b : Nat} {x : Nat → Nat} {D : va_G} {dA : Nat → ClassId} {gi y d : Nat} {n : Nat} {M : fm_M} (hn : 629 ≤ n) (hR : fm_RP M) (hg : gi < 98) (hd : M.1 612 gi = nI d) (hd6 : d ≤ 6) (h0 : Met l y_Mo_isInt (Cond.code y_Mo_isInt b_Mo_isInt 3 (some .boolean) :: fm_T0) ({ frames := 1, cells := 0, slots := 0, locals := 25 }) (fm_Pc fm_lay fm_nf fm_fk fm_cl b x D dA (fm_tys dA) (fm_EX b x) false [.ref 586, .int (nI gi), .int (nI 0)] n M) (fm_Qc fm_lay fm_nf fm_fk fm_cl b x D dA (fun r n' M' => r = some (.int (nI 1)) ∧ n' = n ∧ M' = M)) 0 0 (fm_A b)) (h1 : Met l y_Mo_isInt (Cond.code y_Mo_isInt b_Mo_isInt 3 (some .boolean) :: fm_T0) ({ frames := 1, cells := 0, slots := 0, locals := 25 }) (fm_Pc fm_lay fm_nf fm_fk fm_cl b x D dA (fm_tys dA) (fm_EX b x) false [.ref 586, .int (nI gi), .int (nI 1)] n M) (fm_Qc fm_lay fm_nf fm_fk fm_cl b x D dA (fun r n' M' => r = some (.int (nI 0)) ∧ n' = n ∧ M' = M)) 0 0 (fm_A b)) : Met l y_Mo_isFit (Cond.code y_Mo_isFit b_Mo_isFit 4 (some .boolean) :: fm_T0) ({ frames := 3, cells := 0, slots := 0, locals := 80 }) (fm_Pc fm_lay fm_nf fm_fk fm_cl b x D dA (fm_tys dA) (fm_EX b x) false [.ref 586, .int (nI gi), .int (nI 2), .int (nI y)] n M) (fm_Qc fm_lay fm_nf fm_fk fm_cl b x D dA (fun r n' M' => r = some (.int (nI 0)) ∧ n' = n ∧ M' = M)) 0 0 (fm_A b) := by
  refine fm_enter (by decide) (Nat.le_of_ble_eq_true rfl) ?_
  intro p e s m args below meth c9 hc hr hnm hex htg
  refine fm_iload_n hc d_Mo_isFit_0 rfl rfl ?_
  refine fm_tableIn (off := 110) (tgt := 111) hc d_Mo_isFit_1 (by decide) (by decide) rfl rfl ?_
  refine fm_aload_n hc d_Mo_isFit_111 rfl rfl ?_
  refine fm_iload_n hc d_Mo_isFit_112 rfl rfl ?_
  refine fm_iconst (v := nI 0) hc d_Mo_isFit_113 rfl ?_
  refine fm_callV (av := [.int (nI gi), .int (nI 0)]) (rest := []) (ob := 586) (ci := 11) (r0 := ("AgentNetModel", F_Mo, 51)) (y := y_Mo_isInt) (bytes := b_Mo_isInt) hc fm_T0_good (fm_EX_st b x) hex q_1093 q_13 q_1090 q_1092 qs_Mo_isInt pd_Mo_isInt (by decide) (by omega) (by decide) (by decide) rfl rfl (h0) ⟨rfl, rfl, Nat.le_of_ble_eq_true rfl, Nat.le_of_ble_eq_true rfl⟩ ⟨Nat.le_of_ble_eq_true rfl, Nat.le_of_ble_eq_true rfl⟩ d_Mo_isFit_114 (Nat.le_of_ble_eq_true rfl) (fun r n2 M2 hp => ?_)
  obtain ⟨rfl, hq1, hq2⟩ := hp
  replace hq1 := hq1.symm
  replace hq2 := hq2.symm
  subst hq1 hq2
  refine fm_cnt (z' := (0, 0)) rfl (fm_st (st' := [.int (nI 1)]) rfl ?_)
  refine fm_if_eq (tgt := 133) hc d_Mo_isFit_117 rfl (fun g => absurd g (by decide)) (fun _ => ?_)
  refine fm_aload_n hc d_Mo_isFit_120 rfl rfl ?_
  refine fm_iload_n hc d_Mo_isFit_121 rfl rfl ?_
  refine fm_iconst (v := nI 1) hc d_Mo_isFit_122 rfl ?_
  refine fm_callV (av := [.int (nI gi), .int (nI 1)]) (rest := []) (ob := 586) (ci := 11) (r0 := ("AgentNetModel", F_Mo, 51)) (y := y_Mo_isInt) (bytes := b_Mo_isInt) hc fm_T0_good (fm_EX_st b x) hex q_1093 q_13 q_1090 q_1092 qs_Mo_isInt pd_Mo_isInt (by decide) (by omega) (by decide) (by decide) rfl rfl (h1) ⟨rfl, rfl, Nat.le_of_ble_eq_true rfl, Nat.le_of_ble_eq_true rfl⟩ ⟨Nat.le_of_ble_eq_true rfl, Nat.le_of_ble_eq_true rfl⟩ d_Mo_isFit_123 (Nat.le_of_ble_eq_true rfl) (fun r n2 M2 hp => ?_)
  obtain ⟨rfl, hq1, hq2⟩ := hp
  replace hq1 := hq1.symm
  replace hq2 := hq2.symm
  subst hq1 hq2
  refine fm_cnt (z' := (0, 0)) rfl (fm_st (st' := [.int (nI 0)]) rfl ?_)
  refine fm_if_eq (tgt := 133) hc d_Mo_isFit_126 rfl (fun _ => ?_) (fun g => absurd (by decide) g)
  refine fm_iconst (v := nI 0) hc d_Mo_isFit_133 rfl ?_
  exact fm_zret (ty := .boolean) hc hr (by first | rfl | decide) d_Mo_isFit_134 (Nat.le_refl _) (Nat.le_refl _) ⟨rfl, rfl, rfl⟩
theorem rf_3 {l : Launch} {b : Nat} {x : Nat → Nat} {D : va_G} {dA : Nat → ClassId} {gi y d : Nat} {n : Nat} {M : fm_M} (hn : 629 ≤ n) (hR : fm_RP M) (hg : gi < 98) (hd : M.1 612 gi = nI d) (hd6 : d ≤ 6) (h0 : Met l y_Mo_isInt (Cond.code y_Mo_isInt b_Mo_isInt 3 (some .boolean) :: fm_T0) ({ frames := 1, cells := 0, slots := 0, locals := 25 }) (fm_Pc fm_lay fm_nf fm_fk fm_cl b x D dA (fm_tys dA) (fm_EX b x) false [.ref 586, .int (nI gi), .int (nI 0)] n M) (fm_Qc fm_lay fm_nf fm_fk fm_cl b x D dA (fun r n' M' => r = some (.int (nI 1)) ∧ n' = n ∧ M' = M)) 0 0 (fm_A b)) (h1 : Met l y_Mo_isInt (Cond.code y_Mo_isInt b_Mo_isInt 3 (some .boolean) :: fm_T0) ({ frames := 1, cells := 0, slots := 0, locals := 25 }) (fm_Pc fm_lay fm_nf fm_fk fm_cl b x D dA (fm_tys dA) (fm_EX b x) false [.ref 586, .int (nI gi), .int (nI 1)] n M) (fm_Qc fm_lay fm_nf fm_fk fm_cl b x D dA (fun r n' M' => r = some (.int (nI 1)) ∧ n' = n ∧ M' = M)) 0 0 (fm_A b)) : Met l y_Mo_isFit (Cond.code y_Mo_isFit b_Mo_isFit 4 (some .boolean) :: fm_T0) ({ frames := 3, cells := 0, slots := 0, locals := 80 }) (fm_Pc fm_lay fm_nf fm_fk fm_cl b x D dA (fm_tys dA) (fm_EX b x) false [.ref 586, .int (nI gi), .int (nI 3), .int (nI y)] n M) (fm_Qc fm_lay fm_nf fm_fk fm_cl b x D dA (fun r n' M' => r = some (.int (nI 1)) ∧ n' = n ∧ M' = M)) 0 0 (fm_A b) := by
  refine fm_enter (by decide) (Nat.le_of_ble_eq_true rfl) ?_
  intro p e s m args below meth c9 hc hr hnm hex htg
  refine fm_iload_n hc d_Mo_isFit_0 rfl rfl ?_
  refine fm_tableIn (off := 110) (tgt := 111) hc d_Mo_isFit_1 (by decide) (by decide) rfl rfl ?_
  refine fm_aload_n hc d_Mo_isFit_111 rfl rfl ?_
  refine fm_iload_n hc d_Mo_isFit_112 rfl rfl ?_
  refine fm_iconst (v := nI 0) hc d_Mo_isFit_113 rfl ?_
  refine fm_callV (av := [.int (nI gi), .int (nI 0)]) (rest := []) (ob := 586) (ci := 11) (r0 := ("AgentNetModel", F_Mo, 51)) (y := y_Mo_isInt) (bytes := b_Mo_isInt) hc fm_T0_good (fm_EX_st b x) hex q_1093 q_13 q_1090 q_1092 qs_Mo_isInt pd_Mo_isInt (by decide) (by omega) (by decide) (by decide) rfl rfl (h0) ⟨rfl, rfl, Nat.le_of_ble_eq_true rfl, Nat.le_of_ble_eq_true rfl⟩ ⟨Nat.le_of_ble_eq_true rfl, Nat.le_of_ble_eq_true rfl⟩ d_Mo_isFit_114 (Nat.le_of_ble_eq_true rfl) (fun r n2 M2 hp => ?_)
  obtain ⟨rfl, hq1, hq2⟩ := hp
  replace hq1 := hq1.symm
  replace hq2 := hq2.symm
  subst hq1 hq2
  refine fm_cnt (z' := (0, 0)) rfl (fm_st (st' := [.int (nI 1)]) rfl ?_)
  refine fm_if_eq (tgt := 133) hc d_Mo_isFit_117 rfl (fun g => absurd g (by decide)) (fun _ => ?_)
  refine fm_aload_n hc d_Mo_isFit_120 rfl rfl ?_
  refine fm_iload_n hc d_Mo_isFit_121 rfl rfl ?_
  refine fm_iconst (v := nI 1) hc d_Mo_isFit_122 rfl ?_
  refine fm_callV (av := [.int (nI gi), .int (nI 1)]) (rest := []) (ob := 586) (ci := 11) (r0 := ("AgentNetModel", F_Mo, 51)) (y := y_Mo_isInt) (bytes := b_Mo_isInt) hc fm_T0_good (fm_EX_st b x) hex q_1093 q_13 q_1090 q_1092 qs_Mo_isInt pd_Mo_isInt (by decide) (by omega) (by decide) (by decide) rfl rfl (h1) ⟨rfl, rfl, Nat.le_of_ble_eq_true rfl, Nat.le_of_ble_eq_true rfl⟩ ⟨Nat.le_of_ble_eq_true rfl, Nat.le_of_ble_eq_true rfl⟩ d_Mo_isFit_123 (Nat.le_of_ble_eq_true rfl) (fun r n2 M2 hp => ?_)
  obtain ⟨rfl, hq1, hq2⟩ := hp
  replace hq1 := hq1.symm
  replace hq2 := hq2.symm
  subst hq1 hq2
  refine fm_cnt (z' := (0, 0)) rfl (fm_st (st' := [.int (nI 1)]) rfl ?_)
  refine fm_if_eq (tgt := 133) hc d_Mo_isFit_126 rfl (fun g => absurd g (by decide)) (fun _ => ?_)
  refine fm_iconst (v := nI 1) hc d_Mo_isFit_129 rfl ?_
  refine fm_goto (tgt := 134) hc d_Mo_isFit_130 rfl ?_
  exact fm_zret (ty := .boolean) hc hr (by first | rfl | decide) d_Mo_isFit_134 (Nat.le_refl _) (Nat.le_refl _) ⟨rfl, rfl, rfl⟩
theorem rf_3n {l : Launch} {b : Nat} {x : Nat → Nat} {D : va_G} {dA : Nat → ClassId} {gi y d : Nat} {n : Nat} {M : fm_M} (hn : 629 ≤ n) (hR : fm_RP M) (hg : gi < 98) (hd : M.1 612 gi = nI d) (hd6 : d ≤ 6) (h0 : Met l y_Mo_isInt (Cond.code y_Mo_isInt b_Mo_isInt 3 (some .boolean) :: fm_T0) ({ frames := 1, cells := 0, slots := 0, locals := 25 }) (fm_Pc fm_lay fm_nf fm_fk fm_cl b x D dA (fm_tys dA) (fm_EX b x) false [.ref 586, .int (nI gi), .int (nI 0)] n M) (fm_Qc fm_lay fm_nf fm_fk fm_cl b x D dA (fun r n' M' => r = some (.int (nI 0)) ∧ n' = n ∧ M' = M)) 0 0 (fm_A b)) : Met l y_Mo_isFit (Cond.code y_Mo_isFit b_Mo_isFit 4 (some .boolean) :: fm_T0) ({ frames := 3, cells := 0, slots := 0, locals := 80 }) (fm_Pc fm_lay fm_nf fm_fk fm_cl b x D dA (fm_tys dA) (fm_EX b x) false [.ref 586, .int (nI gi), .int (nI 3), .int (nI y)] n M) (fm_Qc fm_lay fm_nf fm_fk fm_cl b x D dA (fun r n' M' => r = some (.int (nI 0)) ∧ n' = n ∧ M' = M)) 0 0 (fm_A b) := by
  refine fm_enter (by decide) (Nat.le_of_ble_eq_true rfl) ?_
  intro p e s m args below meth c9 hc hr hnm hex htg
  refine fm_iload_n hc d_Mo_isFit_0 rfl rfl ?_
  refine fm_tableIn (off := 110) (tgt := 111) hc d_Mo_isFit_1 (by decide) (by decide) rfl rfl ?_
  refine fm_aload_n hc d_Mo_isFit_111 rfl rfl ?_
  refine fm_iload_n hc d_Mo_isFit_112 rfl rfl ?_
  refine fm_iconst (v := nI 0) hc d_Mo_isFit_113 rfl ?_
  refine fm_callV (av := [.int (nI gi), .int (nI 0)]) (rest := []) (ob := 586) (ci := 11) (r0 := ("AgentNetModel", F_Mo, 51)) (y := y_Mo_isInt) (bytes := b_Mo_isInt) hc fm_T0_good (fm_EX_st b x) hex q_1093 q_13 q_1090 q_1092 qs_Mo_isInt pd_Mo_isInt (by decide) (by omega) (by decide) (by decide) rfl rfl (h0) ⟨rfl, rfl, Nat.le_of_ble_eq_true rfl, Nat.le_of_ble_eq_true rfl⟩ ⟨Nat.le_of_ble_eq_true rfl, Nat.le_of_ble_eq_true rfl⟩ d_Mo_isFit_114 (Nat.le_of_ble_eq_true rfl) (fun r n2 M2 hp => ?_)
  obtain ⟨rfl, hq1, hq2⟩ := hp
  replace hq1 := hq1.symm
  replace hq2 := hq2.symm
  subst hq1 hq2
  refine fm_cnt (z' := (0, 0)) rfl (fm_st (st' := [.int (nI 0)]) rfl ?_)
  refine fm_if_eq (tgt := 133) hc d_Mo_isFit_117 rfl (fun _ => ?_) (fun g => absurd (by decide) g)
  refine fm_iconst (v := nI 0) hc d_Mo_isFit_133 rfl ?_
  exact fm_zret (ty := .boolean) hc hr (by first | rfl | decide) d_Mo_isFit_134 (Nat.le_refl _) (Nat.le_refl _) ⟨rfl, rfl, rfl⟩
theorem rf_3m {l : Launch} {b : Nat} {x : Nat → Nat} {D : va_G} {dA : Nat → ClassId} {gi y d : Nat} {n : Nat} {M : fm_M} (hn : 629 ≤ n) (hR : fm_RP M) (hg : gi < 98) (hd : M.1 612 gi = nI d) (hd6 : d ≤ 6) (h0 : Met l y_Mo_isInt (Cond.code y_Mo_isInt b_Mo_isInt 3 (some .boolean) :: fm_T0) ({ frames := 1, cells := 0, slots := 0, locals := 25 }) (fm_Pc fm_lay fm_nf fm_fk fm_cl b x D dA (fm_tys dA) (fm_EX b x) false [.ref 586, .int (nI gi), .int (nI 0)] n M) (fm_Qc fm_lay fm_nf fm_fk fm_cl b x D dA (fun r n' M' => r = some (.int (nI 1)) ∧ n' = n ∧ M' = M)) 0 0 (fm_A b)) (h1 : Met l y_Mo_isInt (Cond.code y_Mo_isInt b_Mo_isInt 3 (some .boolean) :: fm_T0) ({ frames := 1, cells := 0, slots := 0, locals := 25 }) (fm_Pc fm_lay fm_nf fm_fk fm_cl b x D dA (fm_tys dA) (fm_EX b x) false [.ref 586, .int (nI gi), .int (nI 1)] n M) (fm_Qc fm_lay fm_nf fm_fk fm_cl b x D dA (fun r n' M' => r = some (.int (nI 0)) ∧ n' = n ∧ M' = M)) 0 0 (fm_A b)) : Met l y_Mo_isFit (Cond.code y_Mo_isFit b_Mo_isFit 4 (some .boolean) :: fm_T0) ({ frames := 3, cells := 0, slots := 0, locals := 80 }) (fm_Pc fm_lay fm_nf fm_fk fm_cl b x D dA (fm_tys dA) (fm_EX b x) false [.ref 586, .int (nI gi), .int (nI 3), .int (nI y)] n M) (fm_Qc fm_lay fm_nf fm_fk fm_cl b x D dA (fun r n' M' => r = some (.int (nI 0)) ∧ n' = n ∧ M' = M)) 0 0 (fm_A b) := by
  refine fm_enter (by decide) (Nat.le_of_ble_eq_true rfl) ?_
  intro p e s m args below meth c9 hc hr hnm hex htg
  refine fm_iload_n hc d_Mo_isFit_0 rfl rfl ?_
  refine fm_tableIn (off := 110) (tgt := 111) hc d_Mo_isFit_1 (by decide) (by decide) rfl rfl ?_
  refine fm_aload_n hc d_Mo_isFit_111 rfl rfl ?_
  refine fm_iload_n hc d_Mo_isFit_112 rfl rfl ?_
  refine fm_iconst (v := nI 0) hc d_Mo_isFit_113 rfl ?_
  refine fm_callV (av := [.int (nI gi), .int (nI 0)]) (rest := []) (ob := 586) (ci := 11) (r0 := ("AgentNetModel", F_Mo, 51)) (y := y_Mo_isInt) (bytes := b_Mo_isInt) hc fm_T0_good (fm_EX_st b x) hex q_1093 q_13 q_1090 q_1092 qs_Mo_isInt pd_Mo_isInt (by decide) (by omega) (by decide) (by decide) rfl rfl (h0) ⟨rfl, rfl, Nat.le_of_ble_eq_true rfl, Nat.le_of_ble_eq_true rfl⟩ ⟨Nat.le_of_ble_eq_true rfl, Nat.le_of_ble_eq_true rfl⟩ d_Mo_isFit_114 (Nat.le_of_ble_eq_true rfl) (fun r n2 M2 hp => ?_)
  obtain ⟨rfl, hq1, hq2⟩ := hp
  replace hq1 := hq1.symm
  replace hq2 := hq2.symm
  subst hq1 hq2
  refine fm_cnt (z' := (0, 0)) rfl (fm_st (st' := [.int (nI 1)]) rfl ?_)
  refine fm_if_eq (tgt := 133) hc d_Mo_isFit_117 rfl (fun g => absurd g (by decide)) (fun _ => ?_)
  refine fm_aload_n hc d_Mo_isFit_120 rfl rfl ?_
  refine fm_iload_n hc d_Mo_isFit_121 rfl rfl ?_
  refine fm_iconst (v := nI 1) hc d_Mo_isFit_122 rfl ?_
  refine fm_callV (av := [.int (nI gi), .int (nI 1)]) (rest := []) (ob := 586) (ci := 11) (r0 := ("AgentNetModel", F_Mo, 51)) (y := y_Mo_isInt) (bytes := b_Mo_isInt) hc fm_T0_good (fm_EX_st b x) hex q_1093 q_13 q_1090 q_1092 qs_Mo_isInt pd_Mo_isInt (by decide) (by omega) (by decide) (by decide) rfl rfl (h1) ⟨rfl, rfl, Nat.le_of_ble_eq_true rfl, Nat.le_of_ble_eq_true rfl⟩ ⟨Nat.le_of_ble_eq_true rfl, Nat.le_of_ble_eq_true rfl⟩ d_Mo_isFit_123 (Nat.le_of_ble_eq_true rfl) (fun r n2 M2 hp => ?_)
  obtain ⟨rfl, hq1, hq2⟩ := hp
  replace hq1 := hq1.symm
  replace hq2 := hq2.symm
  subst hq1 hq2
  refine fm_cnt (z' := (0, 0)) rfl (fm_st (st' := [.int (nI 0)]) rfl ?_)
  refine fm_if_eq (tgt := 133) hc d_Mo_isFit_126 rfl (fun _ => ?_) (fun g => absurd (by decide) g)
  refine fm_iconst (v := nI 0) hc d_Mo_isFit_133 rfl ?_
  exact fm_zret (ty := .boolean) hc hr (by first | rfl | decide) d_Mo_isFit_134 (Nat.le_refl _) (Nat.le_refl _) ⟨rfl, rfl, rfl⟩
theorem rf_4 {l : Launch} {b : Nat} {x : Nat → Nat} {D : va_G} {dA : Nat → ClassId} {gi y d : Nat} {n : Nat} {M : fm_M} (hn : 629 ≤ n) (hR : fm_RP M) (hg : gi < 98) (hd : M.1 612 gi = nI d) (hd6 : d ≤ 6) (h0 : Met l y_Mo_isInt (Cond.code y_Mo_isInt b_Mo_isInt 3 (some .boolean) :: fm_T0) ({ frames := 1, cells := 0, slots := 0, locals := 25 }) (fm_Pc fm_lay fm_nf fm_fk fm_cl b x D dA (fm_tys dA) (fm_EX b x) false [.ref 586, .int (nI gi), .int (nI 0)] n M) (fm_Qc fm_lay fm_nf fm_fk fm_cl b x D dA (fun r n' M' => r = some (.int (nI 1)) ∧ n' = n ∧ M' = M)) 0 0 (fm_A b)) (h1 : Met l y_Mo_isInt (Cond.code y_Mo_isInt b_Mo_isInt 3 (some .boolean) :: fm_T0) ({ frames := 1, cells := 0, slots := 0, locals := 25 }) (fm_Pc fm_lay fm_nf fm_fk fm_cl b x D dA (fm_tys dA) (fm_EX b x) false [.ref 586, .int (nI gi), .int (nI 1)] n M) (fm_Qc fm_lay fm_nf fm_fk fm_cl b x D dA (fun r n' M' => r = some (.int (nI 1)) ∧ n' = n ∧ M' = M)) 0 0 (fm_A b)) : Met l y_Mo_isFit (Cond.code y_Mo_isFit b_Mo_isFit 4 (some .boolean) :: fm_T0) ({ frames := 3, cells := 0, slots := 0, locals := 80 }) (fm_Pc fm_lay fm_nf fm_fk fm_cl b x D dA (fm_tys dA) (fm_EX b x) false [.ref 586, .int (nI gi), .int (nI 4), .int (nI y)] n M) (fm_Qc fm_lay fm_nf fm_fk fm_cl b x D dA (fun r n' M' => r = some (.int (nI 1)) ∧ n' = n ∧ M' = M)) 0 0 (fm_A b) := by
  refine fm_enter (by decide) (Nat.le_of_ble_eq_true rfl) ?_
  intro p e s m args below meth c9 hc hr hnm hex htg
  refine fm_iload_n hc d_Mo_isFit_0 rfl rfl ?_
  refine fm_tableIn (off := 110) (tgt := 111) hc d_Mo_isFit_1 (by decide) (by decide) rfl rfl ?_
  refine fm_aload_n hc d_Mo_isFit_111 rfl rfl ?_
  refine fm_iload_n hc d_Mo_isFit_112 rfl rfl ?_
  refine fm_iconst (v := nI 0) hc d_Mo_isFit_113 rfl ?_
  refine fm_callV (av := [.int (nI gi), .int (nI 0)]) (rest := []) (ob := 586) (ci := 11) (r0 := ("AgentNetModel", F_Mo, 51)) (y := y_Mo_isInt) (bytes := b_Mo_isInt) hc fm_T0_good (fm_EX_st b x) hex q_1093 q_13 q_1090 q_1092 qs_Mo_isInt pd_Mo_isInt (by decide) (by omega) (by decide) (by decide) rfl rfl (h0) ⟨rfl, rfl, Nat.le_of_ble_eq_true rfl, Nat.le_of_ble_eq_true rfl⟩ ⟨Nat.le_of_ble_eq_true rfl, Nat.le_of_ble_eq_true rfl⟩ d_Mo_isFit_114 (Nat.le_of_ble_eq_true rfl) (fun r n2 M2 hp => ?_)
  obtain ⟨rfl, hq1, hq2⟩ := hp
  replace hq1 := hq1.symm
  replace hq2 := hq2.symm
  subst hq1 hq2
  refine fm_cnt (z' := (0, 0)) rfl (fm_st (st' := [.int (nI 1)]) rfl ?_)
  refine fm_if_eq (tgt := 133) hc d_Mo_isFit_117 rfl (fun g => absurd g (by decide)) (fun _ => ?_)
  refine fm_aload_n hc d_Mo_isFit_120 rfl rfl ?_
  refine fm_iload_n hc d_Mo_isFit_121 rfl rfl ?_
  refine fm_iconst (v := nI 1) hc d_Mo_isFit_122 rfl ?_
  refine fm_callV (av := [.int (nI gi), .int (nI 1)]) (rest := []) (ob := 586) (ci := 11) (r0 := ("AgentNetModel", F_Mo, 51)) (y := y_Mo_isInt) (bytes := b_Mo_isInt) hc fm_T0_good (fm_EX_st b x) hex q_1093 q_13 q_1090 q_1092 qs_Mo_isInt pd_Mo_isInt (by decide) (by omega) (by decide) (by decide) rfl rfl (h1) ⟨rfl, rfl, Nat.le_of_ble_eq_true rfl, Nat.le_of_ble_eq_true rfl⟩ ⟨Nat.le_of_ble_eq_true rfl, Nat.le_of_ble_eq_true rfl⟩ d_Mo_isFit_123 (Nat.le_of_ble_eq_true rfl) (fun r n2 M2 hp => ?_)
  obtain ⟨rfl, hq1, hq2⟩ := hp
  replace hq1 := hq1.symm
  replace hq2 := hq2.symm
  subst hq1 hq2
  refine fm_cnt (z' := (0, 0)) rfl (fm_st (st' := [.int (nI 1)]) rfl ?_)
  refine fm_if_eq (tgt := 133) hc d_Mo_isFit_126 rfl (fun g => absurd g (by decide)) (fun _ => ?_)
  refine fm_iconst (v := nI 1) hc d_Mo_isFit_129 rfl ?_
  refine fm_goto (tgt := 134) hc d_Mo_isFit_130 rfl ?_
  exact fm_zret (ty := .boolean) hc hr (by first | rfl | decide) d_Mo_isFit_134 (Nat.le_refl _) (Nat.le_refl _) ⟨rfl, rfl, rfl⟩
theorem rf_4n {l : Launch} {b : Nat} {x : Nat → Nat} {D : va_G} {dA : Nat → ClassId} {gi y d : Nat} {n : Nat} {M : fm_M} (hn : 629 ≤ n) (hR : fm_RP M) (hg : gi < 98) (hd : M.1 612 gi = nI d) (hd6 : d ≤ 6) (h0 : Met l y_Mo_isInt (Cond.code y_Mo_isInt b_Mo_isInt 3 (some .boolean) :: fm_T0) ({ frames := 1, cells := 0, slots := 0, locals := 25 }) (fm_Pc fm_lay fm_nf fm_fk fm_cl b x D dA (fm_tys dA) (fm_EX b x) false [.ref 586, .int (nI gi), .int (nI 0)] n M) (fm_Qc fm_lay fm_nf fm_fk fm_cl b x D dA (fun r n' M' => r = some (.int (nI 0)) ∧ n' = n ∧ M' = M)) 0 0 (fm_A b)) : Met l y_Mo_isFit (Cond.code y_Mo_isFit b_Mo_isFit 4 (some .boolean) :: fm_T0) ({ frames := 3, cells := 0, slots := 0, locals := 80 }) (fm_Pc fm_lay fm_nf fm_fk fm_cl b x D dA (fm_tys dA) (fm_EX b x) false [.ref 586, .int (nI gi), .int (nI 4), .int (nI y)] n M) (fm_Qc fm_lay fm_nf fm_fk fm_cl b x D dA (fun r n' M' => r = some (.int (nI 0)) ∧ n' = n ∧ M' = M)) 0 0 (fm_A b) := by
  refine fm_enter (by decide) (Nat.le_of_ble_eq_true rfl) ?_
  intro p e s m args below meth c9 hc hr hnm hex htg
  refine fm_iload_n hc d_Mo_isFit_0 rfl rfl ?_
  refine fm_tableIn (off := 110) (tgt := 111) hc d_Mo_isFit_1 (by decide) (by decide) rfl rfl ?_
  refine fm_aload_n hc d_Mo_isFit_111 rfl rfl ?_
  refine fm_iload_n hc d_Mo_isFit_112 rfl rfl ?_
  refine fm_iconst (v := nI 0) hc d_Mo_isFit_113 rfl ?_
  refine fm_callV (av := [.int (nI gi), .int (nI 0)]) (rest := []) (ob := 586) (ci := 11) (r0 := ("AgentNetModel", F_Mo, 51)) (y := y_Mo_isInt) (bytes := b_Mo_isInt) hc fm_T0_good (fm_EX_st b x) hex q_1093 q_13 q_1090 q_1092 qs_Mo_isInt pd_Mo_isInt (by decide) (by omega) (by decide) (by decide) rfl rfl (h0) ⟨rfl, rfl, Nat.le_of_ble_eq_true rfl, Nat.le_of_ble_eq_true rfl⟩ ⟨Nat.le_of_ble_eq_true rfl, Nat.le_of_ble_eq_true rfl⟩ d_Mo_isFit_114 (Nat.le_of_ble_eq_true rfl) (fun r n2 M2 hp => ?_)
  obtain ⟨rfl, hq1, hq2⟩ := hp
  replace hq1 := hq1.symm
  replace hq2 := hq2.symm
  subst hq1 hq2
  refine fm_cnt (z' := (0, 0)) rfl (fm_st (st' := [.int (nI 0)]) rfl ?_)
  refine fm_if_eq (tgt := 133) hc d_Mo_isFit_117 rfl (fun _ => ?_) (fun g => absurd (by decide) g)
  refine fm_iconst (v := nI 0) hc d_Mo_isFit_133 rfl ?_
  exact fm_zret (ty := .boolean) hc hr (by first | rfl | decide) d_Mo_isFit_134 (Nat.le_refl _) (Nat.le_refl _) ⟨rfl, rfl, rfl⟩
theorem rf_4m {l : Launch} {b : Nat} {x : Nat → Nat} {D : va_G} {dA : Nat → ClassId} {gi y d : Nat} {n : Nat} {M : fm_M} (hn : 629 ≤ n) (hR : fm_RP M) (hg : gi < 98) (hd : M.1 612 gi = nI d) (hd6 : d ≤ 6) (h0 : Met l y_Mo_isInt (Cond.code y_Mo_isInt b_Mo_isInt 3 (some .boolean) :: fm_T0) ({ frames := 1, cells := 0, slots := 0, locals := 25 }) (fm_Pc fm_lay fm_nf fm_fk fm_cl b x D dA (fm_tys dA) (fm_EX b x) false [.ref 586, .int (nI gi), .int (nI 0)] n M) (fm_Qc fm_lay fm_nf fm_fk fm_cl b x D dA (fun r n' M' => r = some (.int (nI 1)) ∧ n' = n ∧ M' = M)) 0 0 (fm_A b)) (h1 : Met l y_Mo_isInt (Cond.code y_Mo_isInt b_Mo_isInt 3 (some .boolean) :: fm_T0) ({ frames := 1, cells := 0, slots := 0, locals := 25 }) (fm_Pc fm_lay fm_nf fm_fk fm_cl b x D dA (fm_tys dA) (fm_EX b x) false [.ref 586, .int (nI gi), .int (nI 1)] n M) (fm_Qc fm_lay fm_nf fm_fk fm_cl b x D dA (fun r n' M' => r = some (.int (nI 0)) ∧ n' = n ∧ M' = M)) 0 0 (fm_A b)) : Met l y_Mo_isFit (Cond.code y_Mo_isFit b_Mo_isFit 4 (some .boolean) :: fm_T0) ({ frames := 3, cells := 0, slots := 0, locals := 80 }) (fm_Pc fm_lay fm_nf fm_fk fm_cl b x D dA (fm_tys dA) (fm_EX b x) false [.ref 586, .int (nI gi), .int (nI 4), .int (nI y)] n M) (fm_Qc fm_lay fm_nf fm_fk fm_cl b x D dA (fun r n' M' => r = some (.int (nI 0)) ∧ n' = n ∧ M' = M)) 0 0 (fm_A b) := by
  refine fm_enter (by decide) (Nat.le_of_ble_eq_true rfl) ?_
  intro p e s m args below meth c9 hc hr hnm hex htg
  refine fm_iload_n hc d_Mo_isFit_0 rfl rfl ?_
  refine fm_tableIn (off := 110) (tgt := 111) hc d_Mo_isFit_1 (by decide) (by decide) rfl rfl ?_
  refine fm_aload_n hc d_Mo_isFit_111 rfl rfl ?_
  refine fm_iload_n hc d_Mo_isFit_112 rfl rfl ?_
  refine fm_iconst (v := nI 0) hc d_Mo_isFit_113 rfl ?_
  refine fm_callV (av := [.int (nI gi), .int (nI 0)]) (rest := []) (ob := 586) (ci := 11) (r0 := ("AgentNetModel", F_Mo, 51)) (y := y_Mo_isInt) (bytes := b_Mo_isInt) hc fm_T0_good (fm_EX_st b x) hex q_1093 q_13 q_1090 q_1092 qs_Mo_isInt pd_Mo_isInt (by decide) (by omega) (by decide) (by decide) rfl rfl (h0) ⟨rfl, rfl, Nat.le_of_ble_eq_true rfl, Nat.le_of_ble_eq_true rfl⟩ ⟨Nat.le_of_ble_eq_true rfl, Nat.le_of_ble_eq_true rfl⟩ d_Mo_isFit_114 (Nat.le_of_ble_eq_true rfl) (fun r n2 M2 hp => ?_)
  obtain ⟨rfl, hq1, hq2⟩ := hp
  replace hq1 := hq1.symm
  replace hq2 := hq2.symm
  subst hq1 hq2
  refine fm_cnt (z' := (0, 0)) rfl (fm_st (st' := [.int (nI 1)]) rfl ?_)
  refine fm_if_eq (tgt := 133) hc d_Mo_isFit_117 rfl (fun g => absurd g (by decide)) (fun _ => ?_)
  refine fm_aload_n hc d_Mo_isFit_120 rfl rfl ?_
  refine fm_iload_n hc d_Mo_isFit_121 rfl rfl ?_
  refine fm_iconst (v := nI 1) hc d_Mo_isFit_122 rfl ?_
  refine fm_callV (av := [.int (nI gi), .int (nI 1)]) (rest := []) (ob := 586) (ci := 11) (r0 := ("AgentNetModel", F_Mo, 51)) (y := y_Mo_isInt) (bytes := b_Mo_isInt) hc fm_T0_good (fm_EX_st b x) hex q_1093 q_13 q_1090 q_1092 qs_Mo_isInt pd_Mo_isInt (by decide) (by omega) (by decide) (by decide) rfl rfl (h1) ⟨rfl, rfl, Nat.le_of_ble_eq_true rfl, Nat.le_of_ble_eq_true rfl⟩ ⟨Nat.le_of_ble_eq_true rfl, Nat.le_of_ble_eq_true rfl⟩ d_Mo_isFit_123 (Nat.le_of_ble_eq_true rfl) (fun r n2 M2 hp => ?_)
  obtain ⟨rfl, hq1, hq2⟩ := hp
  replace hq1 := hq1.symm
  replace hq2 := hq2.symm
  subst hq1 hq2
  refine fm_cnt (z' := (0, 0)) rfl (fm_st (st' := [.int (nI 0)]) rfl ?_)
  refine fm_if_eq (tgt := 133) hc d_Mo_isFit_126 rfl (fun _ => ?_) (fun g => absurd (by decide) g)
  refine fm_iconst (v := nI 0) hc d_Mo_isFit_133 rfl ?_
  exact fm_zret (ty := .boolean) hc hr (by first | rfl | decide) d_Mo_isFit_134 (Nat.le_refl _) (Nat.le_refl _) ⟨rfl, rfl, rfl⟩
theorem rf_5 {l : Launch} {b : Nat} {x : Nat → Nat} {D : va_G} {dA : Nat → ClassId} {gi y d : Nat} {n : Nat} {M : fm_M} (hn : 629 ≤ n) (hR : fm_RP M) (hg : gi < 98) (hd : M.1 612 gi = nI d) (hd6 : d ≤ 6) (hy : y < 256) (h0 : y < d) (h1 : d < 6) : Met l y_Mo_isFit (Cond.code y_Mo_isFit b_Mo_isFit 4 (some .boolean) :: fm_T0) ({ frames := 3, cells := 0, slots := 0, locals := 80 }) (fm_Pc fm_lay fm_nf fm_fk fm_cl b x D dA (fm_tys dA) (fm_EX b x) false [.ref 586, .int (nI gi), .int (nI 5), .int (nI y)] n M) (fm_Qc fm_lay fm_nf fm_fk fm_cl b x D dA (fun r n' M' => r = some (.int (nI 1)) ∧ n' = n ∧ M' = M)) 0 0 (fm_A b) := by
  refine fm_enter (by decide) (Nat.le_of_ble_eq_true rfl) ?_
  intro p e s m args below meth c9 hc hr hnm hex htg
  refine fm_iload_n hc d_Mo_isFit_0 rfl rfl ?_
  refine fm_tableIn (off := 134) (tgt := 135) hc d_Mo_isFit_1 (by decide) (by decide) rfl rfl ?_
  refine fm_aload_n hc d_Mo_isFit_135 rfl rfl ?_
  refine fm_getR (k := 27) (q := 612) hc K_Mo d_Mo_isFit_136 q_912 rfl (by decide) (by omega) (by decide) (by decide) (by decide) rfl (rp_size hR) ?_
  refine fm_iload_n hc d_Mo_isFit_139 rfl rfl ?_
  refine fm_iald (j := gi) (len := 98) hc 0 d_Mo_isFit_140 (by decide) (by omega) (by decide) rfl (by omega) (by decide) ?_
  refine fm_top (congrArg Value.int hd) ?_
  refine fm_iload_n hc d_Mo_isFit_141 rfl rfl ?_
  refine fm_icmp_le (tgt := 160) hc d_Mo_isFit_142 rfl (fun g => absurd g (hnle (a := d) (c := y) h0 (by omega))) (fun _ => ?_)
  refine fm_aload_n hc d_Mo_isFit_145 rfl rfl ?_
  refine fm_getR (k := 27) (q := 612) hc K_Mo d_Mo_isFit_146 q_912 rfl (by decide) (by omega) (by decide) (by decide) (by decide) rfl (rp_size hR) ?_
  refine fm_iload_n hc d_Mo_isFit_149 rfl rfl ?_
  refine fm_iald (j := gi) (len := 98) hc 0 d_Mo_isFit_150 (by decide) (by omega) (by decide) rfl (by omega) (by decide) ?_
  refine fm_top (congrArg Value.int hd) ?_
  refine fm_bipush (v := nI 6) hc d_Mo_isFit_151 rfl ?_
  refine fm_icmp_ge (tgt := 160) hc d_Mo_isFit_153 rfl (fun g => absurd g (hnle (a := 6) (c := d) h1 (by omega))) (fun _ => ?_)
  refine fm_iconst (v := nI 1) hc d_Mo_isFit_156 rfl ?_
  refine fm_goto (tgt := 161) hc d_Mo_isFit_157 rfl ?_
  exact fm_zret (ty := .boolean) hc hr (by first | rfl | decide) d_Mo_isFit_161 (Nat.le_refl _) (Nat.le_refl _) ⟨rfl, rfl, rfl⟩
theorem rf_5n {l : Launch} {b : Nat} {x : Nat → Nat} {D : va_G} {dA : Nat → ClassId} {gi y d : Nat} {n : Nat} {M : fm_M} (hn : 629 ≤ n) (hR : fm_RP M) (hg : gi < 98) (hd : M.1 612 gi = nI d) (hd6 : d ≤ 6) (hy : y < 256) (h0 : d ≤ y) : Met l y_Mo_isFit (Cond.code y_Mo_isFit b_Mo_isFit 4 (some .boolean) :: fm_T0) ({ frames := 3, cells := 0, slots := 0, locals := 80 }) (fm_Pc fm_lay fm_nf fm_fk fm_cl b x D dA (fm_tys dA) (fm_EX b x) false [.ref 586, .int (nI gi), .int (nI 5), .int (nI y)] n M) (fm_Qc fm_lay fm_nf fm_fk fm_cl b x D dA (fun r n' M' => r = some (.int (nI 0)) ∧ n' = n ∧ M' = M)) 0 0 (fm_A b) := by
  refine fm_enter (by decide) (Nat.le_of_ble_eq_true rfl) ?_
  intro p e s m args below meth c9 hc hr hnm hex htg
  refine fm_iload_n hc d_Mo_isFit_0 rfl rfl ?_
  refine fm_tableIn (off := 134) (tgt := 135) hc d_Mo_isFit_1 (by decide) (by decide) rfl rfl ?_
  refine fm_aload_n hc d_Mo_isFit_135 rfl rfl ?_
  refine fm_getR (k := 27) (q := 612) hc K_Mo d_Mo_isFit_136 q_912 rfl (by decide) (by omega) (by decide) (by decide) (by decide) rfl (rp_size hR) ?_
  refine fm_iload_n hc d_Mo_isFit_139 rfl rfl ?_
  refine fm_iald (j := gi) (len := 98) hc 0 d_Mo_isFit_140 (by decide) (by omega) (by decide) rfl (by omega) (by decide) ?_
  refine fm_top (congrArg Value.int hd) ?_
  refine fm_iload_n hc d_Mo_isFit_141 rfl rfl ?_
  refine fm_icmp_le (tgt := 160) hc d_Mo_isFit_142 rfl (fun _ => ?_) (fun g => absurd (nI_le h0 (by omega)) g)
  refine fm_iconst (v := nI 0) hc d_Mo_isFit_160 rfl ?_
  exact fm_zret (ty := .boolean) hc hr (by first | rfl | decide) d_Mo_isFit_161 (Nat.le_refl _) (Nat.le_refl _) ⟨rfl, rfl, rfl⟩
theorem rf_5m {l : Launch} {b : Nat} {x : Nat → Nat} {D : va_G} {dA : Nat → ClassId} {gi y d : Nat} {n : Nat} {M : fm_M} (hn : 629 ≤ n) (hR : fm_RP M) (hg : gi < 98) (hd : M.1 612 gi = nI d) (hd6 : d ≤ 6) (hy : y < 256) (h0 : y < d) (h1 : 6 ≤ d) : Met l y_Mo_isFit (Cond.code y_Mo_isFit b_Mo_isFit 4 (some .boolean) :: fm_T0) ({ frames := 3, cells := 0, slots := 0, locals := 80 }) (fm_Pc fm_lay fm_nf fm_fk fm_cl b x D dA (fm_tys dA) (fm_EX b x) false [.ref 586, .int (nI gi), .int (nI 5), .int (nI y)] n M) (fm_Qc fm_lay fm_nf fm_fk fm_cl b x D dA (fun r n' M' => r = some (.int (nI 0)) ∧ n' = n ∧ M' = M)) 0 0 (fm_A b) := by
  refine fm_enter (by decide) (Nat.le_of_ble_eq_true rfl) ?_
  intro p e s m args below meth c9 hc hr hnm hex htg
  refine fm_iload_n hc d_Mo_isFit_0 rfl rfl ?_
  refine fm_tableIn (off := 134) (tgt := 135) hc d_Mo_isFit_1 (by decide) (by decide) rfl rfl ?_
  refine fm_aload_n hc d_Mo_isFit_135 rfl rfl ?_
  refine fm_getR (k := 27) (q := 612) hc K_Mo d_Mo_isFit_136 q_912 rfl (by decide) (by omega) (by decide) (by decide) (by decide) rfl (rp_size hR) ?_
  refine fm_iload_n hc d_Mo_isFit_139 rfl rfl ?_
  refine fm_iald (j := gi) (len := 98) hc 0 d_Mo_isFit_140 (by decide) (by omega) (by decide) rfl (by omega) (by decide) ?_
  refine fm_top (congrArg Value.int hd) ?_
  refine fm_iload_n hc d_Mo_isFit_141 rfl rfl ?_
  refine fm_icmp_le (tgt := 160) hc d_Mo_isFit_142 rfl (fun g => absurd g (hnle (a := d) (c := y) h0 (by omega))) (fun _ => ?_)
  refine fm_aload_n hc d_Mo_isFit_145 rfl rfl ?_
  refine fm_getR (k := 27) (q := 612) hc K_Mo d_Mo_isFit_146 q_912 rfl (by decide) (by omega) (by decide) (by decide) (by decide) rfl (rp_size hR) ?_
  refine fm_iload_n hc d_Mo_isFit_149 rfl rfl ?_
  refine fm_iald (j := gi) (len := 98) hc 0 d_Mo_isFit_150 (by decide) (by omega) (by decide) rfl (by omega) (by decide) ?_
  refine fm_top (congrArg Value.int hd) ?_
  refine fm_bipush (v := nI 6) hc d_Mo_isFit_151 rfl ?_
  refine fm_icmp_ge (tgt := 160) hc d_Mo_isFit_153 rfl (fun _ => ?_) (fun g => absurd (nI_le h1 (by omega)) g)
  refine fm_iconst (v := nI 0) hc d_Mo_isFit_160 rfl ?_
  exact fm_zret (ty := .boolean) hc hr (by first | rfl | decide) d_Mo_isFit_161 (Nat.le_refl _) (Nat.le_refl _) ⟨rfl, rfl, rfl⟩
theorem rf_6 {l : Launch} {b : Nat} {x : Nat → Nat} {D : va_G} {dA : Nat → ClassId} {gi y d : Nat} {n : Nat} {M : fm_M} (hn : 629 ≤ n) (hR : fm_RP M) (hg : gi < 98) (hd : M.1 612 gi = nI d) (hd6 : d ≤ 6) (h1 : 0 < d) : Met l y_Mo_isFit (Cond.code y_Mo_isFit b_Mo_isFit 4 (some .boolean) :: fm_T0) ({ frames := 3, cells := 0, slots := 0, locals := 80 }) (fm_Pc fm_lay fm_nf fm_fk fm_cl b x D dA (fm_tys dA) (fm_EX b x) false [.ref 586, .int (nI gi), .int (nI 6), .int (nI y)] n M) (fm_Qc fm_lay fm_nf fm_fk fm_cl b x D dA (fun r n' M' => r = some (.int (nI 1)) ∧ n' = n ∧ M' = M)) 0 0 (fm_A b) := by
  refine fm_enter (by decide) (Nat.le_of_ble_eq_true rfl) ?_
  intro p e s m args below meth c9 hc hr hnm hex htg
  refine fm_iload_n hc d_Mo_isFit_0 rfl rfl ?_
  refine fm_tableIn (off := 161) (tgt := 162) hc d_Mo_isFit_1 (by decide) (by decide) rfl rfl ?_
  refine fm_aload_n hc d_Mo_isFit_162 rfl rfl ?_
  refine fm_getR (k := 27) (q := 612) hc K_Mo d_Mo_isFit_163 q_912 rfl (by decide) (by omega) (by decide) (by decide) (by decide) rfl (rp_size hR) ?_
  refine fm_iload_n hc d_Mo_isFit_166 rfl rfl ?_
  refine fm_iald (j := gi) (len := 98) hc 0 d_Mo_isFit_167 (by decide) (by omega) (by decide) rfl (by omega) (by decide) ?_
  refine fm_top (congrArg Value.int hd) ?_
  refine fm_if_le (tgt := 175) hc d_Mo_isFit_168 rfl (fun g => absurd g (fun q => by have := (nI_leI (a := d) (b := 0) (by omega) (by decide)).mp q; omega)) (fun _ => ?_)
  refine fm_iconst (v := nI 1) hc d_Mo_isFit_171 rfl ?_
  refine fm_goto (tgt := 176) hc d_Mo_isFit_172 rfl ?_
  exact fm_zret (ty := .boolean) hc hr (by first | rfl | decide) d_Mo_isFit_176 (Nat.le_refl _) (Nat.le_refl _) ⟨rfl, rfl, rfl⟩
theorem rf_6n {l : Launch} {b : Nat} {x : Nat → Nat} {D : va_G} {dA : Nat → ClassId} {gi y d : Nat} {n : Nat} {M : fm_M} (hn : 629 ≤ n) (hR : fm_RP M) (hg : gi < 98) (hd : M.1 612 gi = nI d) (hd6 : d ≤ 6) (h1 : d = 0) : Met l y_Mo_isFit (Cond.code y_Mo_isFit b_Mo_isFit 4 (some .boolean) :: fm_T0) ({ frames := 3, cells := 0, slots := 0, locals := 80 }) (fm_Pc fm_lay fm_nf fm_fk fm_cl b x D dA (fm_tys dA) (fm_EX b x) false [.ref 586, .int (nI gi), .int (nI 6), .int (nI y)] n M) (fm_Qc fm_lay fm_nf fm_fk fm_cl b x D dA (fun r n' M' => r = some (.int (nI 0)) ∧ n' = n ∧ M' = M)) 0 0 (fm_A b) := by
  refine fm_enter (by decide) (Nat.le_of_ble_eq_true rfl) ?_
  intro p e s m args below meth c9 hc hr hnm hex htg
  refine fm_iload_n hc d_Mo_isFit_0 rfl rfl ?_
  refine fm_tableIn (off := 161) (tgt := 162) hc d_Mo_isFit_1 (by decide) (by decide) rfl rfl ?_
  refine fm_aload_n hc d_Mo_isFit_162 rfl rfl ?_
  refine fm_getR (k := 27) (q := 612) hc K_Mo d_Mo_isFit_163 q_912 rfl (by decide) (by omega) (by decide) (by decide) (by decide) rfl (rp_size hR) ?_
  refine fm_iload_n hc d_Mo_isFit_166 rfl rfl ?_
  refine fm_iald (j := gi) (len := 98) hc 0 d_Mo_isFit_167 (by decide) (by omega) (by decide) rfl (by omega) (by decide) ?_
  refine fm_top (congrArg Value.int hd) ?_
  refine fm_if_le (tgt := 175) hc d_Mo_isFit_168 rfl (fun _ => ?_) (fun g => absurd (nI_le (a := d) (b := 0) (by omega) (by decide)) g)
  refine fm_iconst (v := nI 0) hc d_Mo_isFit_175 rfl ?_
  exact fm_zret (ty := .boolean) hc hr (by first | rfl | decide) d_Mo_isFit_176 (Nat.le_refl _) (Nat.le_refl _) ⟨rfl, rfl, rfl⟩
theorem rf_7 {l : Launch} {b : Nat} {x : Nat → Nat} {D : va_G} {dA : Nat → ClassId} {gi y d : Nat} {n : Nat} {M : fm_M} (hn : 629 ≤ n) (hR : fm_RP M) (hg : gi < 98) (hd : M.1 612 gi = nI d) (hd6 : d ≤ 6) (hy : y < 256) (h0 : y < 8) (h1 : d < 6) : Met l y_Mo_isFit (Cond.code y_Mo_isFit b_Mo_isFit 4 (some .boolean) :: fm_T0) ({ frames := 3, cells := 0, slots := 0, locals := 80 }) (fm_Pc fm_lay fm_nf fm_fk fm_cl b x D dA (fm_tys dA) (fm_EX b x) false [.ref 586, .int (nI gi), .int (nI 7), .int (nI y)] n M) (fm_Qc fm_lay fm_nf fm_fk fm_cl b x D dA (fun r n' M' => r = some (.int (nI 1)) ∧ n' = n ∧ M' = M)) 0 0 (fm_A b) := by
  refine fm_enter (by decide) (Nat.le_of_ble_eq_true rfl) ?_
  intro p e s m args below meth c9 hc hr hnm hex htg
  refine fm_iload_n hc d_Mo_isFit_0 rfl rfl ?_
  refine fm_tableIn (off := 176) (tgt := 177) hc d_Mo_isFit_1 (by decide) (by decide) rfl rfl ?_
  refine fm_iload_n hc d_Mo_isFit_177 rfl rfl ?_
  refine fm_bipush (v := nI 8) hc d_Mo_isFit_178 rfl ?_
  refine fm_icmp_ge (tgt := 198) hc d_Mo_isFit_180 rfl (fun g => absurd g (hnle (a := 8) (c := y) h0 (by omega))) (fun _ => ?_)
  refine fm_aload_n hc d_Mo_isFit_183 rfl rfl ?_
  refine fm_getR (k := 27) (q := 612) hc K_Mo d_Mo_isFit_184 q_912 rfl (by decide) (by omega) (by decide) (by decide) (by decide) rfl (rp_size hR) ?_
  refine fm_iload_n hc d_Mo_isFit_187 rfl rfl ?_
  refine fm_iald (j := gi) (len := 98) hc 0 d_Mo_isFit_188 (by decide) (by omega) (by decide) rfl (by omega) (by decide) ?_
  refine fm_top (congrArg Value.int hd) ?_
  refine fm_bipush (v := nI 6) hc d_Mo_isFit_189 rfl ?_
  refine fm_icmp_ge (tgt := 198) hc d_Mo_isFit_191 rfl (fun g => absurd g (hnle (a := 6) (c := d) h1 (by omega))) (fun _ => ?_)
  refine fm_iconst (v := nI 1) hc d_Mo_isFit_194 rfl ?_
  refine fm_goto (tgt := 199) hc d_Mo_isFit_195 rfl ?_
  exact fm_zret (ty := .boolean) hc hr (by first | rfl | decide) d_Mo_isFit_199 (Nat.le_refl _) (Nat.le_refl _) ⟨rfl, rfl, rfl⟩
theorem rf_7n {l : Launch} {b : Nat} {x : Nat → Nat} {D : va_G} {dA : Nat → ClassId} {gi y d : Nat} {n : Nat} {M : fm_M} (hn : 629 ≤ n) (hR : fm_RP M) (hg : gi < 98) (hd : M.1 612 gi = nI d) (hd6 : d ≤ 6) (hy : y < 256) (h0 : 8 ≤ y) : Met l y_Mo_isFit (Cond.code y_Mo_isFit b_Mo_isFit 4 (some .boolean) :: fm_T0) ({ frames := 3, cells := 0, slots := 0, locals := 80 }) (fm_Pc fm_lay fm_nf fm_fk fm_cl b x D dA (fm_tys dA) (fm_EX b x) false [.ref 586, .int (nI gi), .int (nI 7), .int (nI y)] n M) (fm_Qc fm_lay fm_nf fm_fk fm_cl b x D dA (fun r n' M' => r = some (.int (nI 0)) ∧ n' = n ∧ M' = M)) 0 0 (fm_A b) := by
  refine fm_enter (by decide) (Nat.le_of_ble_eq_true rfl) ?_
  intro p e s m args below meth c9 hc hr hnm hex htg
  refine fm_iload_n hc d_Mo_isFit_0 rfl rfl ?_
  refine fm_tableIn (off := 176) (tgt := 177) hc d_Mo_isFit_1 (by decide) (by decide) rfl rfl ?_
  refine fm_iload_n hc d_Mo_isFit_177 rfl rfl ?_
  refine fm_bipush (v := nI 8) hc d_Mo_isFit_178 rfl ?_
  refine fm_icmp_ge (tgt := 198) hc d_Mo_isFit_180 rfl (fun _ => ?_) (fun g => absurd (nI_le h0 (by omega)) g)
  refine fm_iconst (v := nI 0) hc d_Mo_isFit_198 rfl ?_
  exact fm_zret (ty := .boolean) hc hr (by first | rfl | decide) d_Mo_isFit_199 (Nat.le_refl _) (Nat.le_refl _) ⟨rfl, rfl, rfl⟩
theorem rf_7m {l : Launch} {b : Nat} {x : Nat → Nat} {D : va_G} {dA : Nat → ClassId} {gi y d : Nat} {n : Nat} {M : fm_M} (hn : 629 ≤ n) (hR : fm_RP M) (hg : gi < 98) (hd : M.1 612 gi = nI d) (hd6 : d ≤ 6) (hy : y < 256) (h0 : y < 8) (h1 : 6 ≤ d) : Met l y_Mo_isFit (Cond.code y_Mo_isFit b_Mo_isFit 4 (some .boolean) :: fm_T0) ({ frames := 3, cells := 0, slots := 0, locals := 80 }) (fm_Pc fm_lay fm_nf fm_fk fm_cl b x D dA (fm_tys dA) (fm_EX b x) false [.ref 586, .int (nI gi), .int (nI 7), .int (nI y)] n M) (fm_Qc fm_lay fm_nf fm_fk fm_cl b x D dA (fun r n' M' => r = some (.int (nI 0)) ∧ n' = n ∧ M' = M)) 0 0 (fm_A b) := by
  refine fm_enter (by decide) (Nat.le_of_ble_eq_true rfl) ?_
  intro p e s m args below meth c9 hc hr hnm hex htg
  refine fm_iload_n hc d_Mo_isFit_0 rfl rfl ?_
  refine fm_tableIn (off := 176) (tgt := 177) hc d_Mo_isFit_1 (by decide) (by decide) rfl rfl ?_
  refine fm_iload_n hc d_Mo_isFit_177 rfl rfl ?_
  refine fm_bipush (v := nI 8) hc d_Mo_isFit_178 rfl ?_
  refine fm_icmp_ge (tgt := 198) hc d_Mo_isFit_180 rfl (fun g => absurd g (hnle (a := 8) (c := y) h0 (by omega))) (fun _ => ?_)
  refine fm_aload_n hc d_Mo_isFit_183 rfl rfl ?_
  refine fm_getR (k := 27) (q := 612) hc K_Mo d_Mo_isFit_184 q_912 rfl (by decide) (by omega) (by decide) (by decide) (by decide) rfl (rp_size hR) ?_
  refine fm_iload_n hc d_Mo_isFit_187 rfl rfl ?_
  refine fm_iald (j := gi) (len := 98) hc 0 d_Mo_isFit_188 (by decide) (by omega) (by decide) rfl (by omega) (by decide) ?_
  refine fm_top (congrArg Value.int hd) ?_
  refine fm_bipush (v := nI 6) hc d_Mo_isFit_189 rfl ?_
  refine fm_icmp_ge (tgt := 198) hc d_Mo_isFit_191 rfl (fun _ => ?_) (fun g => absurd (nI_le h1 (by omega)) g)
  refine fm_iconst (v := nI 0) hc d_Mo_isFit_198 rfl ?_
  exact fm_zret (ty := .boolean) hc hr (by first | rfl | decide) d_Mo_isFit_199 (Nat.le_refl _) (Nat.le_refl _) ⟨rfl, rfl, rfl⟩
theorem rf_8 {l : Launch} {b : Nat} {x : Nat → Nat} {D : va_G} {dA : Nat → ClassId} {gi y d sd : Nat} {n : Nat} {M : fm_M} (hn : 629 ≤ n) (hR : fm_RP M) (hg : gi < 98) (hd : M.1 612 gi = nI d) (hd6 : d ≤ 6) (hs : M.1 609 gi = nI sd) (hs2 : sd < 1000) (h0 : Met l y_Mo_isInt (Cond.code y_Mo_isInt b_Mo_isInt 3 (some .boolean) :: fm_T0) ({ frames := 1, cells := 0, slots := 0, locals := 25 }) (fm_Pc fm_lay fm_nf fm_fk fm_cl b x D dA (fm_tys dA) (fm_EX b x) false [.ref 586, .int (nI gi), .int (nI 0)] n M) (fm_Qc fm_lay fm_nf fm_fk fm_cl b x D dA (fun r n' M' => r = some (.int (nI 1)) ∧ n' = n ∧ M' = M)) 0 0 (fm_A b)) (h1 : sd < 16) : Met l y_Mo_isFit (Cond.code y_Mo_isFit b_Mo_isFit 4 (some .boolean) :: fm_T0) ({ frames := 3, cells := 0, slots := 0, locals := 80 }) (fm_Pc fm_lay fm_nf fm_fk fm_cl b x D dA (fm_tys dA) (fm_EX b x) false [.ref 586, .int (nI gi), .int (nI 8), .int (nI y)] n M) (fm_Qc fm_lay fm_nf fm_fk fm_cl b x D dA (fun r n' M' => r = some (.int (nI 1)) ∧ n' = n ∧ M' = M)) 0 0 (fm_A b) := by
  refine fm_enter (by decide) (Nat.le_of_ble_eq_true rfl) ?_
  intro p e s m args below meth c9 hc hr hnm hex htg
  refine fm_iload_n hc d_Mo_isFit_0 rfl rfl ?_
  refine fm_tableIn (off := 199) (tgt := 200) hc d_Mo_isFit_1 (by decide) (by decide) rfl rfl ?_
  refine fm_aload_n hc d_Mo_isFit_200 rfl rfl ?_
  refine fm_iload_n hc d_Mo_isFit_201 rfl rfl ?_
  refine fm_iconst (v := nI 0) hc d_Mo_isFit_202 rfl ?_
  refine fm_callV (av := [.int (nI gi), .int (nI 0)]) (rest := []) (ob := 586) (ci := 11) (r0 := ("AgentNetModel", F_Mo, 51)) (y := y_Mo_isInt) (bytes := b_Mo_isInt) hc fm_T0_good (fm_EX_st b x) hex q_1093 q_13 q_1090 q_1092 qs_Mo_isInt pd_Mo_isInt (by decide) (by omega) (by decide) (by decide) rfl rfl (h0) ⟨rfl, rfl, Nat.le_of_ble_eq_true rfl, Nat.le_of_ble_eq_true rfl⟩ ⟨Nat.le_of_ble_eq_true rfl, Nat.le_of_ble_eq_true rfl⟩ d_Mo_isFit_203 (Nat.le_of_ble_eq_true rfl) (fun r n2 M2 hp => ?_)
  obtain ⟨rfl, hq1, hq2⟩ := hp
  replace hq1 := hq1.symm
  replace hq2 := hq2.symm
  subst hq1 hq2
  refine fm_cnt (z' := (0, 0)) rfl (fm_st (st' := [.int (nI 1)]) rfl ?_)
  refine fm_if_eq (tgt := 224) hc d_Mo_isFit_206 rfl (fun g => absurd g (by decide)) (fun _ => ?_)
  refine fm_aload_n hc d_Mo_isFit_209 rfl rfl ?_
  refine fm_getR (k := 24) (q := 609) hc K_Mo d_Mo_isFit_210 q_909 rfl (by decide) (by omega) (by decide) (by decide) (by decide) rfl (rp_said hR) ?_
  refine fm_iload_n hc d_Mo_isFit_213 rfl rfl ?_
  refine fm_iald (j := gi) (len := 98) hc 0 d_Mo_isFit_214 (by decide) (by omega) (by decide) rfl (by omega) (by decide) ?_
  refine fm_top (congrArg Value.int hs) ?_
  refine fm_bipush (v := nI 16) hc d_Mo_isFit_215 rfl ?_
  refine fm_icmp_ge (tgt := 224) hc d_Mo_isFit_217 rfl (fun g => absurd g (hnle (a := 16) (c := sd) h1 (by omega))) (fun _ => ?_)
  refine fm_iconst (v := nI 1) hc d_Mo_isFit_220 rfl ?_
  refine fm_goto (tgt := 225) hc d_Mo_isFit_221 rfl ?_
  exact fm_zret (ty := .boolean) hc hr (by first | rfl | decide) d_Mo_isFit_225 (Nat.le_refl _) (Nat.le_refl _) ⟨rfl, rfl, rfl⟩
theorem rf_8n {l : Launch} {b : Nat} {x : Nat → Nat} {D : va_G} {dA : Nat → ClassId} {gi y d : Nat} {n : Nat} {M : fm_M} (hn : 629 ≤ n) (hR : fm_RP M) (hg : gi < 98) (hd : M.1 612 gi = nI d) (hd6 : d ≤ 6) (h0 : Met l y_Mo_isInt (Cond.code y_Mo_isInt b_Mo_isInt 3 (some .boolean) :: fm_T0) ({ frames := 1, cells := 0, slots := 0, locals := 25 }) (fm_Pc fm_lay fm_nf fm_fk fm_cl b x D dA (fm_tys dA) (fm_EX b x) false [.ref 586, .int (nI gi), .int (nI 0)] n M) (fm_Qc fm_lay fm_nf fm_fk fm_cl b x D dA (fun r n' M' => r = some (.int (nI 0)) ∧ n' = n ∧ M' = M)) 0 0 (fm_A b)) : Met l y_Mo_isFit (Cond.code y_Mo_isFit b_Mo_isFit 4 (some .boolean) :: fm_T0) ({ frames := 3, cells := 0, slots := 0, locals := 80 }) (fm_Pc fm_lay fm_nf fm_fk fm_cl b x D dA (fm_tys dA) (fm_EX b x) false [.ref 586, .int (nI gi), .int (nI 8), .int (nI y)] n M) (fm_Qc fm_lay fm_nf fm_fk fm_cl b x D dA (fun r n' M' => r = some (.int (nI 0)) ∧ n' = n ∧ M' = M)) 0 0 (fm_A b) := by
  refine fm_enter (by decide) (Nat.le_of_ble_eq_true rfl) ?_
  intro p e s m args below meth c9 hc hr hnm hex htg
  refine fm_iload_n hc d_Mo_isFit_0 rfl rfl ?_
  refine fm_tableIn (off := 199) (tgt := 200) hc d_Mo_isFit_1 (by decide) (by decide) rfl rfl ?_
  refine fm_aload_n hc d_Mo_isFit_200 rfl rfl ?_
  refine fm_iload_n hc d_Mo_isFit_201 rfl rfl ?_
  refine fm_iconst (v := nI 0) hc d_Mo_isFit_202 rfl ?_
  refine fm_callV (av := [.int (nI gi), .int (nI 0)]) (rest := []) (ob := 586) (ci := 11) (r0 := ("AgentNetModel", F_Mo, 51)) (y := y_Mo_isInt) (bytes := b_Mo_isInt) hc fm_T0_good (fm_EX_st b x) hex q_1093 q_13 q_1090 q_1092 qs_Mo_isInt pd_Mo_isInt (by decide) (by omega) (by decide) (by decide) rfl rfl (h0) ⟨rfl, rfl, Nat.le_of_ble_eq_true rfl, Nat.le_of_ble_eq_true rfl⟩ ⟨Nat.le_of_ble_eq_true rfl, Nat.le_of_ble_eq_true rfl⟩ d_Mo_isFit_203 (Nat.le_of_ble_eq_true rfl) (fun r n2 M2 hp => ?_)
  obtain ⟨rfl, hq1, hq2⟩ := hp
  replace hq1 := hq1.symm
  replace hq2 := hq2.symm
  subst hq1 hq2
  refine fm_cnt (z' := (0, 0)) rfl (fm_st (st' := [.int (nI 0)]) rfl ?_)
  refine fm_if_eq (tgt := 224) hc d_Mo_isFit_206 rfl (fun _ => ?_) (fun g => absurd (by decide) g)
  refine fm_iconst (v := nI 0) hc d_Mo_isFit_224 rfl ?_
  exact fm_zret (ty := .boolean) hc hr (by first | rfl | decide) d_Mo_isFit_225 (Nat.le_refl _) (Nat.le_refl _) ⟨rfl, rfl, rfl⟩
theorem rf_8m {l : Launch} {b : Nat} {x : Nat → Nat} {D : va_G} {dA : Nat → ClassId} {gi y d sd : Nat} {n : Nat} {M : fm_M} (hn : 629 ≤ n) (hR : fm_RP M) (hg : gi < 98) (hd : M.1 612 gi = nI d) (hd6 : d ≤ 6) (hs : M.1 609 gi = nI sd) (hs2 : sd < 1000) (h0 : Met l y_Mo_isInt (Cond.code y_Mo_isInt b_Mo_isInt 3 (some .boolean) :: fm_T0) ({ frames := 1, cells := 0, slots := 0, locals := 25 }) (fm_Pc fm_lay fm_nf fm_fk fm_cl b x D dA (fm_tys dA) (fm_EX b x) false [.ref 586, .int (nI gi), .int (nI 0)] n M) (fm_Qc fm_lay fm_nf fm_fk fm_cl b x D dA (fun r n' M' => r = some (.int (nI 1)) ∧ n' = n ∧ M' = M)) 0 0 (fm_A b)) (h1 : 16 ≤ sd) : Met l y_Mo_isFit (Cond.code y_Mo_isFit b_Mo_isFit 4 (some .boolean) :: fm_T0) ({ frames := 3, cells := 0, slots := 0, locals := 80 }) (fm_Pc fm_lay fm_nf fm_fk fm_cl b x D dA (fm_tys dA) (fm_EX b x) false [.ref 586, .int (nI gi), .int (nI 8), .int (nI y)] n M) (fm_Qc fm_lay fm_nf fm_fk fm_cl b x D dA (fun r n' M' => r = some (.int (nI 0)) ∧ n' = n ∧ M' = M)) 0 0 (fm_A b) := by
  refine fm_enter (by decide) (Nat.le_of_ble_eq_true rfl) ?_
  intro p e s m args below meth c9 hc hr hnm hex htg
  refine fm_iload_n hc d_Mo_isFit_0 rfl rfl ?_
  refine fm_tableIn (off := 199) (tgt := 200) hc d_Mo_isFit_1 (by decide) (by decide) rfl rfl ?_
  refine fm_aload_n hc d_Mo_isFit_200 rfl rfl ?_
  refine fm_iload_n hc d_Mo_isFit_201 rfl rfl ?_
  refine fm_iconst (v := nI 0) hc d_Mo_isFit_202 rfl ?_
  refine fm_callV (av := [.int (nI gi), .int (nI 0)]) (rest := []) (ob := 586) (ci := 11) (r0 := ("AgentNetModel", F_Mo, 51)) (y := y_Mo_isInt) (bytes := b_Mo_isInt) hc fm_T0_good (fm_EX_st b x) hex q_1093 q_13 q_1090 q_1092 qs_Mo_isInt pd_Mo_isInt (by decide) (by omega) (by decide) (by decide) rfl rfl (h0) ⟨rfl, rfl, Nat.le_of_ble_eq_true rfl, Nat.le_of_ble_eq_true rfl⟩ ⟨Nat.le_of_ble_eq_true rfl, Nat.le_of_ble_eq_true rfl⟩ d_Mo_isFit_203 (Nat.le_of_ble_eq_true rfl) (fun r n2 M2 hp => ?_)
  obtain ⟨rfl, hq1, hq2⟩ := hp
  replace hq1 := hq1.symm
  replace hq2 := hq2.symm
  subst hq1 hq2
  refine fm_cnt (z' := (0, 0)) rfl (fm_st (st' := [.int (nI 1)]) rfl ?_)
  refine fm_if_eq (tgt := 224) hc d_Mo_isFit_206 rfl (fun g => absurd g (by decide)) (fun _ => ?_)
  refine fm_aload_n hc d_Mo_isFit_209 rfl rfl ?_
  refine fm_getR (k := 24) (q := 609) hc K_Mo d_Mo_isFit_210 q_909 rfl (by decide) (by omega) (by decide) (by decide) (by decide) rfl (rp_said hR) ?_
  refine fm_iload_n hc d_Mo_isFit_213 rfl rfl ?_
  refine fm_iald (j := gi) (len := 98) hc 0 d_Mo_isFit_214 (by decide) (by omega) (by decide) rfl (by omega) (by decide) ?_
  refine fm_top (congrArg Value.int hs) ?_
  refine fm_bipush (v := nI 16) hc d_Mo_isFit_215 rfl ?_
  refine fm_icmp_ge (tgt := 224) hc d_Mo_isFit_217 rfl (fun _ => ?_) (fun g => absurd (nI_le h1 (by omega)) g)
  refine fm_iconst (v := nI 0) hc d_Mo_isFit_224 rfl ?_
  exact fm_zret (ty := .boolean) hc hr (by first | rfl | decide) d_Mo_isFit_225 (Nat.le_refl _) (Nat.le_refl _) ⟨rfl, rfl, rfl⟩
theorem rf_9 {l : Launch} {b : Nat} {x : Nat → Nat} {D : va_G} {dA : Nat → ClassId} {gi y d : Nat} {n : Nat} {M : fm_M} (hn : 629 ≤ n) (hR : fm_RP M) (hg : gi < 98) (hd : M.1 612 gi = nI d) (hd6 : d ≤ 6) (h0 : Met l y_Mo_isUpTo (Cond.code y_Mo_isUpTo b_Mo_isUpTo 3 (some .boolean) :: fm_T0) ({ frames := 2, cells := 0, slots := 0, locals := 50 }) (fm_Pc fm_lay fm_nf fm_fk fm_cl b x D dA (fm_tys dA) (fm_EX b x) false [.ref 586, .int (nI gi), .int (nI 3)] n M) (fm_Qc fm_lay fm_nf fm_fk fm_cl b x D dA (fun r n' M' => r = some (.int (nI 1)) ∧ n' = n ∧ M' = M)) 0 0 (fm_A b)) : Met l y_Mo_isFit (Cond.code y_Mo_isFit b_Mo_isFit 4 (some .boolean) :: fm_T0) ({ frames := 3, cells := 0, slots := 0, locals := 80 }) (fm_Pc fm_lay fm_nf fm_fk fm_cl b x D dA (fm_tys dA) (fm_EX b x) false [.ref 586, .int (nI gi), .int (nI 9), .int (nI y)] n M) (fm_Qc fm_lay fm_nf fm_fk fm_cl b x D dA (fun r n' M' => r = some (.int (nI 1)) ∧ n' = n ∧ M' = M)) 0 0 (fm_A b) := by
  refine fm_enter (by decide) (Nat.le_of_ble_eq_true rfl) ?_
  intro p e s m args below meth c9 hc hr hnm hex htg
  refine fm_iload_n hc d_Mo_isFit_0 rfl rfl ?_
  refine fm_tableIn (off := 225) (tgt := 226) hc d_Mo_isFit_1 (by decide) (by decide) rfl rfl ?_
  refine fm_aload_n hc d_Mo_isFit_226 rfl rfl ?_
  refine fm_iload_n hc d_Mo_isFit_227 rfl rfl ?_
  refine fm_iconst (v := nI 3) hc d_Mo_isFit_228 rfl ?_
  refine fm_callV (av := [.int (nI gi), .int (nI 3)]) (rest := []) (ob := 586) (ci := 11) (r0 := ("AgentNetModel", F_Mo, 51)) (y := y_Mo_isUpTo) (bytes := b_Mo_isUpTo) hc fm_T0_good (fm_EX_st b x) hex q_1102 q_13 q_1099 q_1101 qs_Mo_isUpTo pd_Mo_isUpTo (by decide) (by omega) (by decide) (by decide) rfl rfl (h0) ⟨rfl, rfl, Nat.le_of_ble_eq_true rfl, Nat.le_of_ble_eq_true rfl⟩ ⟨Nat.le_of_ble_eq_true rfl, Nat.le_of_ble_eq_true rfl⟩ d_Mo_isFit_229 (Nat.le_of_ble_eq_true rfl) (fun r n2 M2 hp => ?_)
  obtain ⟨rfl, hq1, hq2⟩ := hp
  replace hq1 := hq1.symm
  replace hq2 := hq2.symm
  subst hq1 hq2
  refine fm_cnt (z' := (0, 0)) rfl (fm_st (st' := [.int (nI 1)]) rfl ?_)
  exact fm_zret (ty := .boolean) hc hr (by first | rfl | decide) d_Mo_isFit_232 (Nat.le_refl _) (Nat.le_refl _) ⟨rfl, rfl, rfl⟩
theorem rf_9n {l : Launch} {b : Nat} {x : Nat → Nat} {D : va_G} {dA : Nat → ClassId} {gi y d : Nat} {n : Nat} {M : fm_M} (hn : 629 ≤ n) (hR : fm_RP M) (hg : gi < 98) (hd : M.1 612 gi = nI d) (hd6 : d ≤ 6) (h0 : Met l y_Mo_isUpTo (Cond.code y_Mo_isUpTo b_Mo_isUpTo 3 (some .boolean) :: fm_T0) ({ frames := 2, cells := 0, slots := 0, locals := 50 }) (fm_Pc fm_lay fm_nf fm_fk fm_cl b x D dA (fm_tys dA) (fm_EX b x) false [.ref 586, .int (nI gi), .int (nI 3)] n M) (fm_Qc fm_lay fm_nf fm_fk fm_cl b x D dA (fun r n' M' => r = some (.int (nI 0)) ∧ n' = n ∧ M' = M)) 0 0 (fm_A b)) : Met l y_Mo_isFit (Cond.code y_Mo_isFit b_Mo_isFit 4 (some .boolean) :: fm_T0) ({ frames := 3, cells := 0, slots := 0, locals := 80 }) (fm_Pc fm_lay fm_nf fm_fk fm_cl b x D dA (fm_tys dA) (fm_EX b x) false [.ref 586, .int (nI gi), .int (nI 9), .int (nI y)] n M) (fm_Qc fm_lay fm_nf fm_fk fm_cl b x D dA (fun r n' M' => r = some (.int (nI 0)) ∧ n' = n ∧ M' = M)) 0 0 (fm_A b) := by
  refine fm_enter (by decide) (Nat.le_of_ble_eq_true rfl) ?_
  intro p e s m args below meth c9 hc hr hnm hex htg
  refine fm_iload_n hc d_Mo_isFit_0 rfl rfl ?_
  refine fm_tableIn (off := 225) (tgt := 226) hc d_Mo_isFit_1 (by decide) (by decide) rfl rfl ?_
  refine fm_aload_n hc d_Mo_isFit_226 rfl rfl ?_
  refine fm_iload_n hc d_Mo_isFit_227 rfl rfl ?_
  refine fm_iconst (v := nI 3) hc d_Mo_isFit_228 rfl ?_
  refine fm_callV (av := [.int (nI gi), .int (nI 3)]) (rest := []) (ob := 586) (ci := 11) (r0 := ("AgentNetModel", F_Mo, 51)) (y := y_Mo_isUpTo) (bytes := b_Mo_isUpTo) hc fm_T0_good (fm_EX_st b x) hex q_1102 q_13 q_1099 q_1101 qs_Mo_isUpTo pd_Mo_isUpTo (by decide) (by omega) (by decide) (by decide) rfl rfl (h0) ⟨rfl, rfl, Nat.le_of_ble_eq_true rfl, Nat.le_of_ble_eq_true rfl⟩ ⟨Nat.le_of_ble_eq_true rfl, Nat.le_of_ble_eq_true rfl⟩ d_Mo_isFit_229 (Nat.le_of_ble_eq_true rfl) (fun r n2 M2 hp => ?_)
  obtain ⟨rfl, hq1, hq2⟩ := hp
  replace hq1 := hq1.symm
  replace hq2 := hq2.symm
  subst hq1 hq2
  refine fm_cnt (z' := (0, 0)) rfl (fm_st (st' := [.int (nI 0)]) rfl ?_)
  exact fm_zret (ty := .boolean) hc hr (by first | rfl | decide) d_Mo_isFit_232 (Nat.le_refl _) (Nat.le_refl _) ⟨rfl, rfl, rfl⟩
theorem rf_13 {l : Launch} {b : Nat} {x : Nat → Nat} {D : va_G} {dA : Nat → ClassId} {gi y d : Nat} {n : Nat} {M : fm_M} (hn : 629 ≤ n) (hR : fm_RP M) (hg : gi < 98) (hd : M.1 612 gi = nI d) (hd6 : d ≤ 6) (h0 : Met l y_Mo_isUpTo (Cond.code y_Mo_isUpTo b_Mo_isUpTo 3 (some .boolean) :: fm_T0) ({ frames := 2, cells := 0, slots := 0, locals := 50 }) (fm_Pc fm_lay fm_nf fm_fk fm_cl b x D dA (fm_tys dA) (fm_EX b x) false [.ref 586, .int (nI gi), .int (nI 20)] n M) (fm_Qc fm_lay fm_nf fm_fk fm_cl b x D dA (fun r n' M' => r = some (.int (nI 1)) ∧ n' = n ∧ M' = M)) 0 0 (fm_A b)) : Met l y_Mo_isFit (Cond.code y_Mo_isFit b_Mo_isFit 4 (some .boolean) :: fm_T0) ({ frames := 3, cells := 0, slots := 0, locals := 80 }) (fm_Pc fm_lay fm_nf fm_fk fm_cl b x D dA (fm_tys dA) (fm_EX b x) false [.ref 586, .int (nI gi), .int (nI 13), .int (nI y)] n M) (fm_Qc fm_lay fm_nf fm_fk fm_cl b x D dA (fun r n' M' => r = some (.int (nI 1)) ∧ n' = n ∧ M' = M)) 0 0 (fm_A b) := by
  refine fm_enter (by decide) (Nat.le_of_ble_eq_true rfl) ?_
  intro p e s m args below meth c9 hc hr hnm hex htg
  refine fm_iload_n hc d_Mo_isFit_0 rfl rfl ?_
  refine fm_tableIn (off := 239) (tgt := 240) hc d_Mo_isFit_1 (by decide) (by decide) rfl rfl ?_
  refine fm_aload_n hc d_Mo_isFit_240 rfl rfl ?_
  refine fm_iload_n hc d_Mo_isFit_241 rfl rfl ?_
  refine fm_bipush (v := nI 20) hc d_Mo_isFit_242 rfl ?_
  refine fm_callV (av := [.int (nI gi), .int (nI 20)]) (rest := []) (ob := 586) (ci := 11) (r0 := ("AgentNetModel", F_Mo, 51)) (y := y_Mo_isUpTo) (bytes := b_Mo_isUpTo) hc fm_T0_good (fm_EX_st b x) hex q_1102 q_13 q_1099 q_1101 qs_Mo_isUpTo pd_Mo_isUpTo (by decide) (by omega) (by decide) (by decide) rfl rfl (h0) ⟨rfl, rfl, Nat.le_of_ble_eq_true rfl, Nat.le_of_ble_eq_true rfl⟩ ⟨Nat.le_of_ble_eq_true rfl, Nat.le_of_ble_eq_true rfl⟩ d_Mo_isFit_244 (Nat.le_of_ble_eq_true rfl) (fun r n2 M2 hp => ?_)
  obtain ⟨rfl, hq1, hq2⟩ := hp
  replace hq1 := hq1.symm
  replace hq2 := hq2.symm
  subst hq1 hq2
  refine fm_cnt (z' := (0, 0)) rfl (fm_st (st' := [.int (nI 1)]) rfl ?_)
  exact fm_zret (ty := .boolean) hc hr (by first | rfl | decide) d_Mo_isFit_247 (Nat.le_refl _) (Nat.le_refl _) ⟨rfl, rfl, rfl⟩
theorem rf_13n {l : Launch} {b : Nat} {x : Nat → Nat} {D : va_G} {dA : Nat → ClassId} {gi y d : Nat} {n : Nat} {M : fm_M} (hn : 629 ≤ n) (hR : fm_RP M) (hg : gi < 98) (hd : M.1 612 gi = nI d) (hd6 : d ≤ 6) (h0 : Met l y_Mo_isUpTo (Cond.code y_Mo_isUpTo b_Mo_isUpTo 3 (some .boolean) :: fm_T0) ({ frames := 2, cells := 0, slots := 0, locals := 50 }) (fm_Pc fm_lay fm_nf fm_fk fm_cl b x D dA (fm_tys dA) (fm_EX b x) false [.ref 586, .int (nI gi), .int (nI 20)] n M) (fm_Qc fm_lay fm_nf fm_fk fm_cl b x D dA (fun r n' M' => r = some (.int (nI 0)) ∧ n' = n ∧ M' = M)) 0 0 (fm_A b)) : Met l y_Mo_isFit (Cond.code y_Mo_isFit b_Mo_isFit 4 (some .boolean) :: fm_T0) ({ frames := 3, cells := 0, slots := 0, locals := 80 }) (fm_Pc fm_lay fm_nf fm_fk fm_cl b x D dA (fm_tys dA) (fm_EX b x) false [.ref 586, .int (nI gi), .int (nI 13), .int (nI y)] n M) (fm_Qc fm_lay fm_nf fm_fk fm_cl b x D dA (fun r n' M' => r = some (.int (nI 0)) ∧ n' = n ∧ M' = M)) 0 0 (fm_A b) := by
  refine fm_enter (by decide) (Nat.le_of_ble_eq_true rfl) ?_
  intro p e s m args below meth c9 hc hr hnm hex htg
  refine fm_iload_n hc d_Mo_isFit_0 rfl rfl ?_
  refine fm_tableIn (off := 239) (tgt := 240) hc d_Mo_isFit_1 (by decide) (by decide) rfl rfl ?_
  refine fm_aload_n hc d_Mo_isFit_240 rfl rfl ?_
  refine fm_iload_n hc d_Mo_isFit_241 rfl rfl ?_
  refine fm_bipush (v := nI 20) hc d_Mo_isFit_242 rfl ?_
  refine fm_callV (av := [.int (nI gi), .int (nI 20)]) (rest := []) (ob := 586) (ci := 11) (r0 := ("AgentNetModel", F_Mo, 51)) (y := y_Mo_isUpTo) (bytes := b_Mo_isUpTo) hc fm_T0_good (fm_EX_st b x) hex q_1102 q_13 q_1099 q_1101 qs_Mo_isUpTo pd_Mo_isUpTo (by decide) (by omega) (by decide) (by decide) rfl rfl (h0) ⟨rfl, rfl, Nat.le_of_ble_eq_true rfl, Nat.le_of_ble_eq_true rfl⟩ ⟨Nat.le_of_ble_eq_true rfl, Nat.le_of_ble_eq_true rfl⟩ d_Mo_isFit_244 (Nat.le_of_ble_eq_true rfl) (fun r n2 M2 hp => ?_)
  obtain ⟨rfl, hq1, hq2⟩ := hp
  replace hq1 := hq1.symm
  replace hq2 := hq2.symm
  subst hq1 hq2
  refine fm_cnt (z' := (0, 0)) rfl (fm_st (st' := [.int (nI 0)]) rfl ?_)
  exact fm_zret (ty := .boolean) hc hr (by first | rfl | decide) d_Mo_isFit_247 (Nat.le_refl _) (Nat.le_refl _) ⟨rfl, rfl, rfl⟩
theorem rf_11 {l : Launch} {b : Nat} {x : Nat → Nat} {D : va_G} {dA : Nat → ClassId} {gi y d : Nat} {n : Nat} {M : fm_M} (hn : 629 ≤ n) (hR : fm_RP M) (hg : gi < 98) (hd : M.1 612 gi = nI d) (hd6 : d ≤ 6) (h0 : Met l y_Mo_isInt (Cond.code y_Mo_isInt b_Mo_isInt 3 (some .boolean) :: fm_T0) ({ frames := 1, cells := 0, slots := 0, locals := 25 }) (fm_Pc fm_lay fm_nf fm_fk fm_cl b x D dA (fm_tys dA) (fm_EX b x) false [.ref 586, .int (nI gi), .int (nI 0)] n M) (fm_Qc fm_lay fm_nf fm_fk fm_cl b x D dA (fun r n' M' => r = some (.int (nI 1)) ∧ n' = n ∧ M' = M)) 0 0 (fm_A b)) : Met l y_Mo_isFit (Cond.code y_Mo_isFit b_Mo_isFit 4 (some .boolean) :: fm_T0) ({ frames := 3, cells := 0, slots := 0, locals := 80 }) (fm_Pc fm_lay fm_nf fm_fk fm_cl b x D dA (fm_tys dA) (fm_EX b x) false [.ref 586, .int (nI gi), .int (nI 11), .int (nI y)] n M) (fm_Qc fm_lay fm_nf fm_fk fm_cl b x D dA (fun r n' M' => r = some (.int (nI 1)) ∧ n' = n ∧ M' = M)) 0 0 (fm_A b) := by
  refine fm_enter (by decide) (Nat.le_of_ble_eq_true rfl) ?_
  intro p e s m args below meth c9 hc hr hnm hex htg
  refine fm_iload_n hc d_Mo_isFit_0 rfl rfl ?_
  refine fm_tableIn (off := 232) (tgt := 233) hc d_Mo_isFit_1 (by decide) (by decide) rfl rfl ?_
  refine fm_aload_n hc d_Mo_isFit_233 rfl rfl ?_
  refine fm_iload_n hc d_Mo_isFit_234 rfl rfl ?_
  refine fm_iconst (v := nI 0) hc d_Mo_isFit_235 rfl ?_
  refine fm_callV (av := [.int (nI gi), .int (nI 0)]) (rest := []) (ob := 586) (ci := 11) (r0 := ("AgentNetModel", F_Mo, 51)) (y := y_Mo_isInt) (bytes := b_Mo_isInt) hc fm_T0_good (fm_EX_st b x) hex q_1093 q_13 q_1090 q_1092 qs_Mo_isInt pd_Mo_isInt (by decide) (by omega) (by decide) (by decide) rfl rfl (h0) ⟨rfl, rfl, Nat.le_of_ble_eq_true rfl, Nat.le_of_ble_eq_true rfl⟩ ⟨Nat.le_of_ble_eq_true rfl, Nat.le_of_ble_eq_true rfl⟩ d_Mo_isFit_236 (Nat.le_of_ble_eq_true rfl) (fun r n2 M2 hp => ?_)
  obtain ⟨rfl, hq1, hq2⟩ := hp
  replace hq1 := hq1.symm
  replace hq2 := hq2.symm
  subst hq1 hq2
  refine fm_cnt (z' := (0, 0)) rfl (fm_st (st' := [.int (nI 1)]) rfl ?_)
  exact fm_zret (ty := .boolean) hc hr (by first | rfl | decide) d_Mo_isFit_239 (Nat.le_refl _) (Nat.le_refl _) ⟨rfl, rfl, rfl⟩
theorem rf_11n {l : Launch} {b : Nat} {x : Nat → Nat} {D : va_G} {dA : Nat → ClassId} {gi y d : Nat} {n : Nat} {M : fm_M} (hn : 629 ≤ n) (hR : fm_RP M) (hg : gi < 98) (hd : M.1 612 gi = nI d) (hd6 : d ≤ 6) (h0 : Met l y_Mo_isInt (Cond.code y_Mo_isInt b_Mo_isInt 3 (some .boolean) :: fm_T0) ({ frames := 1, cells := 0, slots := 0, locals := 25 }) (fm_Pc fm_lay fm_nf fm_fk fm_cl b x D dA (fm_tys dA) (fm_EX b x) false [.ref 586, .int (nI gi), .int (nI 0)] n M) (fm_Qc fm_lay fm_nf fm_fk fm_cl b x D dA (fun r n' M' => r = some (.int (nI 0)) ∧ n' = n ∧ M' = M)) 0 0 (fm_A b)) : Met l y_Mo_isFit (Cond.code y_Mo_isFit b_Mo_isFit 4 (some .boolean) :: fm_T0) ({ frames := 3, cells := 0, slots := 0, locals := 80 }) (fm_Pc fm_lay fm_nf fm_fk fm_cl b x D dA (fm_tys dA) (fm_EX b x) false [.ref 586, .int (nI gi), .int (nI 11), .int (nI y)] n M) (fm_Qc fm_lay fm_nf fm_fk fm_cl b x D dA (fun r n' M' => r = some (.int (nI 0)) ∧ n' = n ∧ M' = M)) 0 0 (fm_A b) := by
  refine fm_enter (by decide) (Nat.le_of_ble_eq_true rfl) ?_
  intro p e s m args below meth c9 hc hr hnm hex htg
  refine fm_iload_n hc d_Mo_isFit_0 rfl rfl ?_
  refine fm_tableIn (off := 232) (tgt := 233) hc d_Mo_isFit_1 (by decide) (by decide) rfl rfl ?_
  refine fm_aload_n hc d_Mo_isFit_233 rfl rfl ?_
  refine fm_iload_n hc d_Mo_isFit_234 rfl rfl ?_
  refine fm_iconst (v := nI 0) hc d_Mo_isFit_235 rfl ?_
  refine fm_callV (av := [.int (nI gi), .int (nI 0)]) (rest := []) (ob := 586) (ci := 11) (r0 := ("AgentNetModel", F_Mo, 51)) (y := y_Mo_isInt) (bytes := b_Mo_isInt) hc fm_T0_good (fm_EX_st b x) hex q_1093 q_13 q_1090 q_1092 qs_Mo_isInt pd_Mo_isInt (by decide) (by omega) (by decide) (by decide) rfl rfl (h0) ⟨rfl, rfl, Nat.le_of_ble_eq_true rfl, Nat.le_of_ble_eq_true rfl⟩ ⟨Nat.le_of_ble_eq_true rfl, Nat.le_of_ble_eq_true rfl⟩ d_Mo_isFit_236 (Nat.le_of_ble_eq_true rfl) (fun r n2 M2 hp => ?_)
  obtain ⟨rfl, hq1, hq2⟩ := hp
  replace hq1 := hq1.symm
  replace hq2 := hq2.symm
  subst hq1 hq2
  refine fm_cnt (z' := (0, 0)) rfl (fm_st (st' := [.int (nI 0)]) rfl ?_)
  exact fm_zret (ty := .boolean) hc hr (by first | rfl | decide) d_Mo_isFit_239 (Nat.le_refl _) (Nat.le_refl _) ⟨rfl, rfl, rfl⟩
theorem rf_12 {l : Launch} {b : Nat} {x : Nat → Nat} {D : va_G} {dA : Nat → ClassId} {gi y d : Nat} {n : Nat} {M : fm_M} (hn : 629 ≤ n) (hR : fm_RP M) (hg : gi < 98) (hd : M.1 612 gi = nI d) (hd6 : d ≤ 6) (h0 : Met l y_Mo_isInt (Cond.code y_Mo_isInt b_Mo_isInt 3 (some .boolean) :: fm_T0) ({ frames := 1, cells := 0, slots := 0, locals := 25 }) (fm_Pc fm_lay fm_nf fm_fk fm_cl b x D dA (fm_tys dA) (fm_EX b x) false [.ref 586, .int (nI gi), .int (nI 0)] n M) (fm_Qc fm_lay fm_nf fm_fk fm_cl b x D dA (fun r n' M' => r = some (.int (nI 1)) ∧ n' = n ∧ M' = M)) 0 0 (fm_A b)) : Met l y_Mo_isFit (Cond.code y_Mo_isFit b_Mo_isFit 4 (some .boolean) :: fm_T0) ({ frames := 3, cells := 0, slots := 0, locals := 80 }) (fm_Pc fm_lay fm_nf fm_fk fm_cl b x D dA (fm_tys dA) (fm_EX b x) false [.ref 586, .int (nI gi), .int (nI 12), .int (nI y)] n M) (fm_Qc fm_lay fm_nf fm_fk fm_cl b x D dA (fun r n' M' => r = some (.int (nI 1)) ∧ n' = n ∧ M' = M)) 0 0 (fm_A b) := by
  refine fm_enter (by decide) (Nat.le_of_ble_eq_true rfl) ?_
  intro p e s m args below meth c9 hc hr hnm hex htg
  refine fm_iload_n hc d_Mo_isFit_0 rfl rfl ?_
  refine fm_tableIn (off := 232) (tgt := 233) hc d_Mo_isFit_1 (by decide) (by decide) rfl rfl ?_
  refine fm_aload_n hc d_Mo_isFit_233 rfl rfl ?_
  refine fm_iload_n hc d_Mo_isFit_234 rfl rfl ?_
  refine fm_iconst (v := nI 0) hc d_Mo_isFit_235 rfl ?_
  refine fm_callV (av := [.int (nI gi), .int (nI 0)]) (rest := []) (ob := 586) (ci := 11) (r0 := ("AgentNetModel", F_Mo, 51)) (y := y_Mo_isInt) (bytes := b_Mo_isInt) hc fm_T0_good (fm_EX_st b x) hex q_1093 q_13 q_1090 q_1092 qs_Mo_isInt pd_Mo_isInt (by decide) (by omega) (by decide) (by decide) rfl rfl (h0) ⟨rfl, rfl, Nat.le_of_ble_eq_true rfl, Nat.le_of_ble_eq_true rfl⟩ ⟨Nat.le_of_ble_eq_true rfl, Nat.le_of_ble_eq_true rfl⟩ d_Mo_isFit_236 (Nat.le_of_ble_eq_true rfl) (fun r n2 M2 hp => ?_)
  obtain ⟨rfl, hq1, hq2⟩ := hp
  replace hq1 := hq1.symm
  replace hq2 := hq2.symm
  subst hq1 hq2
  refine fm_cnt (z' := (0, 0)) rfl (fm_st (st' := [.int (nI 1)]) rfl ?_)
  exact fm_zret (ty := .boolean) hc hr (by first | rfl | decide) d_Mo_isFit_239 (Nat.le_refl _) (Nat.le_refl _) ⟨rfl, rfl, rfl⟩
theorem rf_12n {l : Launch} {b : Nat} {x : Nat → Nat} {D : va_G} {dA : Nat → ClassId} {gi y d : Nat} {n : Nat} {M : fm_M} (hn : 629 ≤ n) (hR : fm_RP M) (hg : gi < 98) (hd : M.1 612 gi = nI d) (hd6 : d ≤ 6) (h0 : Met l y_Mo_isInt (Cond.code y_Mo_isInt b_Mo_isInt 3 (some .boolean) :: fm_T0) ({ frames := 1, cells := 0, slots := 0, locals := 25 }) (fm_Pc fm_lay fm_nf fm_fk fm_cl b x D dA (fm_tys dA) (fm_EX b x) false [.ref 586, .int (nI gi), .int (nI 0)] n M) (fm_Qc fm_lay fm_nf fm_fk fm_cl b x D dA (fun r n' M' => r = some (.int (nI 0)) ∧ n' = n ∧ M' = M)) 0 0 (fm_A b)) : Met l y_Mo_isFit (Cond.code y_Mo_isFit b_Mo_isFit 4 (some .boolean) :: fm_T0) ({ frames := 3, cells := 0, slots := 0, locals := 80 }) (fm_Pc fm_lay fm_nf fm_fk fm_cl b x D dA (fm_tys dA) (fm_EX b x) false [.ref 586, .int (nI gi), .int (nI 12), .int (nI y)] n M) (fm_Qc fm_lay fm_nf fm_fk fm_cl b x D dA (fun r n' M' => r = some (.int (nI 0)) ∧ n' = n ∧ M' = M)) 0 0 (fm_A b) := by
  refine fm_enter (by decide) (Nat.le_of_ble_eq_true rfl) ?_
  intro p e s m args below meth c9 hc hr hnm hex htg
  refine fm_iload_n hc d_Mo_isFit_0 rfl rfl ?_
  refine fm_tableIn (off := 232) (tgt := 233) hc d_Mo_isFit_1 (by decide) (by decide) rfl rfl ?_
  refine fm_aload_n hc d_Mo_isFit_233 rfl rfl ?_
  refine fm_iload_n hc d_Mo_isFit_234 rfl rfl ?_
  refine fm_iconst (v := nI 0) hc d_Mo_isFit_235 rfl ?_
  refine fm_callV (av := [.int (nI gi), .int (nI 0)]) (rest := []) (ob := 586) (ci := 11) (r0 := ("AgentNetModel", F_Mo, 51)) (y := y_Mo_isInt) (bytes := b_Mo_isInt) hc fm_T0_good (fm_EX_st b x) hex q_1093 q_13 q_1090 q_1092 qs_Mo_isInt pd_Mo_isInt (by decide) (by omega) (by decide) (by decide) rfl rfl (h0) ⟨rfl, rfl, Nat.le_of_ble_eq_true rfl, Nat.le_of_ble_eq_true rfl⟩ ⟨Nat.le_of_ble_eq_true rfl, Nat.le_of_ble_eq_true rfl⟩ d_Mo_isFit_236 (Nat.le_of_ble_eq_true rfl) (fun r n2 M2 hp => ?_)
  obtain ⟨rfl, hq1, hq2⟩ := hp
  replace hq1 := hq1.symm
  replace hq2 := hq2.symm
  subst hq1 hq2
  refine fm_cnt (z' := (0, 0)) rfl (fm_st (st' := [.int (nI 0)]) rfl ?_)
  exact fm_zret (ty := .boolean) hc hr (by first | rfl | decide) d_Mo_isFit_239 (Nat.le_refl _) (Nat.le_refl _) ⟨rfl, rfl, rfl⟩
theorem rf_15 {l : Launch} {b : Nat} {x : Nat → Nat} {D : va_G} {dA : Nat → ClassId} {gi y d : Nat} {n : Nat} {M : fm_M} (hn : 629 ≤ n) (hR : fm_RP M) (hg : gi < 98) (hd : M.1 612 gi = nI d) (hd6 : d ≤ 6) (h1 : 0 < d) (h0 : Met l y_Mo_isInt (Cond.code y_Mo_isInt b_Mo_isInt 3 (some .boolean) :: fm_T0) ({ frames := 1, cells := 0, slots := 0, locals := 25 }) (fm_Pc fm_lay fm_nf fm_fk fm_cl b x D dA (fm_tys dA) (fm_EX b x) false [.ref 586, .int (nI gi), .int (nI 0)] n M) (fm_Qc fm_lay fm_nf fm_fk fm_cl b x D dA (fun r n' M' => r = some (.int (nI 0)) ∧ n' = n ∧ M' = M)) 0 0 (fm_A b)) : Met l y_Mo_isFit (Cond.code y_Mo_isFit b_Mo_isFit 4 (some .boolean) :: fm_T0) ({ frames := 3, cells := 0, slots := 0, locals := 80 }) (fm_Pc fm_lay fm_nf fm_fk fm_cl b x D dA (fm_tys dA) (fm_EX b x) false [.ref 586, .int (nI gi), .int (nI 15), .int (nI y)] n M) (fm_Qc fm_lay fm_nf fm_fk fm_cl b x D dA (fun r n' M' => r = some (.int (nI 1)) ∧ n' = n ∧ M' = M)) 0 0 (fm_A b) := by
  refine fm_enter (by decide) (Nat.le_of_ble_eq_true rfl) ?_
  intro p e s m args below meth c9 hc hr hnm hex htg
  refine fm_iload_n hc d_Mo_isFit_0 rfl rfl ?_
  refine fm_tableIn (off := 273) (tgt := 274) hc d_Mo_isFit_1 (by decide) (by decide) rfl rfl ?_
  refine fm_aload_n hc d_Mo_isFit_274 rfl rfl ?_
  refine fm_getR (k := 27) (q := 612) hc K_Mo d_Mo_isFit_275 q_912 rfl (by decide) (by omega) (by decide) (by decide) (by decide) rfl (rp_size hR) ?_
  refine fm_iload_n hc d_Mo_isFit_278 rfl rfl ?_
  refine fm_iald (j := gi) (len := 98) hc 0 d_Mo_isFit_279 (by decide) (by omega) (by decide) rfl (by omega) (by decide) ?_
  refine fm_top (congrArg Value.int hd) ?_
  refine fm_if_le (tgt := 296) hc d_Mo_isFit_280 rfl (fun g => absurd g (fun q => by have := (nI_leI (a := d) (b := 0) (by omega) (by decide)).mp q; omega)) (fun _ => ?_)
  refine fm_aload_n hc d_Mo_isFit_283 rfl rfl ?_
  refine fm_iload_n hc d_Mo_isFit_284 rfl rfl ?_
  refine fm_iconst (v := nI 0) hc d_Mo_isFit_285 rfl ?_
  refine fm_callV (av := [.int (nI gi), .int (nI 0)]) (rest := []) (ob := 586) (ci := 11) (r0 := ("AgentNetModel", F_Mo, 51)) (y := y_Mo_isInt) (bytes := b_Mo_isInt) hc fm_T0_good (fm_EX_st b x) hex q_1093 q_13 q_1090 q_1092 qs_Mo_isInt pd_Mo_isInt (by decide) (by omega) (by decide) (by decide) rfl rfl (h0) ⟨rfl, rfl, Nat.le_of_ble_eq_true rfl, Nat.le_of_ble_eq_true rfl⟩ ⟨Nat.le_of_ble_eq_true rfl, Nat.le_of_ble_eq_true rfl⟩ d_Mo_isFit_286 (Nat.le_of_ble_eq_true rfl) (fun r n2 M2 hp => ?_)
  obtain ⟨rfl, hq1, hq2⟩ := hp
  replace hq1 := hq1.symm
  replace hq2 := hq2.symm
  subst hq1 hq2
  refine fm_cnt (z' := (0, 0)) rfl (fm_st (st' := [.int (nI 0)]) rfl ?_)
  refine fm_if_ne (tgt := 296) hc d_Mo_isFit_289 rfl (fun g => absurd (by decide) g) (fun _ => ?_)
  refine fm_iconst (v := nI 1) hc d_Mo_isFit_292 rfl ?_
  refine fm_goto (tgt := 297) hc d_Mo_isFit_293 rfl ?_
  exact fm_zret (ty := .boolean) hc hr (by first | rfl | decide) d_Mo_isFit_297 (Nat.le_refl _) (Nat.le_refl _) ⟨rfl, rfl, rfl⟩
theorem rf_15n {l : Launch} {b : Nat} {x : Nat → Nat} {D : va_G} {dA : Nat → ClassId} {gi y d : Nat} {n : Nat} {M : fm_M} (hn : 629 ≤ n) (hR : fm_RP M) (hg : gi < 98) (hd : M.1 612 gi = nI d) (hd6 : d ≤ 6) (h1 : d = 0) : Met l y_Mo_isFit (Cond.code y_Mo_isFit b_Mo_isFit 4 (some .boolean) :: fm_T0) ({ frames := 3, cells := 0, slots := 0, locals := 80 }) (fm_Pc fm_lay fm_nf fm_fk fm_cl b x D dA (fm_tys dA) (fm_EX b x) false [.ref 586, .int (nI gi), .int (nI 15), .int (nI y)] n M) (fm_Qc fm_lay fm_nf fm_fk fm_cl b x D dA (fun r n' M' => r = some (.int (nI 0)) ∧ n' = n ∧ M' = M)) 0 0 (fm_A b) := by
  refine fm_enter (by decide) (Nat.le_of_ble_eq_true rfl) ?_
  intro p e s m args below meth c9 hc hr hnm hex htg
  refine fm_iload_n hc d_Mo_isFit_0 rfl rfl ?_
  refine fm_tableIn (off := 273) (tgt := 274) hc d_Mo_isFit_1 (by decide) (by decide) rfl rfl ?_
  refine fm_aload_n hc d_Mo_isFit_274 rfl rfl ?_
  refine fm_getR (k := 27) (q := 612) hc K_Mo d_Mo_isFit_275 q_912 rfl (by decide) (by omega) (by decide) (by decide) (by decide) rfl (rp_size hR) ?_
  refine fm_iload_n hc d_Mo_isFit_278 rfl rfl ?_
  refine fm_iald (j := gi) (len := 98) hc 0 d_Mo_isFit_279 (by decide) (by omega) (by decide) rfl (by omega) (by decide) ?_
  refine fm_top (congrArg Value.int hd) ?_
  refine fm_if_le (tgt := 296) hc d_Mo_isFit_280 rfl (fun _ => ?_) (fun g => absurd (nI_le (a := d) (b := 0) (by omega) (by decide)) g)
  refine fm_iconst (v := nI 0) hc d_Mo_isFit_296 rfl ?_
  exact fm_zret (ty := .boolean) hc hr (by first | rfl | decide) d_Mo_isFit_297 (Nat.le_refl _) (Nat.le_refl _) ⟨rfl, rfl, rfl⟩
theorem rf_15m {l : Launch} {b : Nat} {x : Nat → Nat} {D : va_G} {dA : Nat → ClassId} {gi y d : Nat} {n : Nat} {M : fm_M} (hn : 629 ≤ n) (hR : fm_RP M) (hg : gi < 98) (hd : M.1 612 gi = nI d) (hd6 : d ≤ 6) (h1 : 0 < d) (h0 : Met l y_Mo_isInt (Cond.code y_Mo_isInt b_Mo_isInt 3 (some .boolean) :: fm_T0) ({ frames := 1, cells := 0, slots := 0, locals := 25 }) (fm_Pc fm_lay fm_nf fm_fk fm_cl b x D dA (fm_tys dA) (fm_EX b x) false [.ref 586, .int (nI gi), .int (nI 0)] n M) (fm_Qc fm_lay fm_nf fm_fk fm_cl b x D dA (fun r n' M' => r = some (.int (nI 1)) ∧ n' = n ∧ M' = M)) 0 0 (fm_A b)) : Met l y_Mo_isFit (Cond.code y_Mo_isFit b_Mo_isFit 4 (some .boolean) :: fm_T0) ({ frames := 3, cells := 0, slots := 0, locals := 80 }) (fm_Pc fm_lay fm_nf fm_fk fm_cl b x D dA (fm_tys dA) (fm_EX b x) false [.ref 586, .int (nI gi), .int (nI 15), .int (nI y)] n M) (fm_Qc fm_lay fm_nf fm_fk fm_cl b x D dA (fun r n' M' => r = some (.int (nI 0)) ∧ n' = n ∧ M' = M)) 0 0 (fm_A b) := by
  refine fm_enter (by decide) (Nat.le_of_ble_eq_true rfl) ?_
  intro p e s m args below meth c9 hc hr hnm hex htg
  refine fm_iload_n hc d_Mo_isFit_0 rfl rfl ?_
  refine fm_tableIn (off := 273) (tgt := 274) hc d_Mo_isFit_1 (by decide) (by decide) rfl rfl ?_
  refine fm_aload_n hc d_Mo_isFit_274 rfl rfl ?_
  refine fm_getR (k := 27) (q := 612) hc K_Mo d_Mo_isFit_275 q_912 rfl (by decide) (by omega) (by decide) (by decide) (by decide) rfl (rp_size hR) ?_
  refine fm_iload_n hc d_Mo_isFit_278 rfl rfl ?_
  refine fm_iald (j := gi) (len := 98) hc 0 d_Mo_isFit_279 (by decide) (by omega) (by decide) rfl (by omega) (by decide) ?_
  refine fm_top (congrArg Value.int hd) ?_
  refine fm_if_le (tgt := 296) hc d_Mo_isFit_280 rfl (fun g => absurd g (fun q => by have := (nI_leI (a := d) (b := 0) (by omega) (by decide)).mp q; omega)) (fun _ => ?_)
  refine fm_aload_n hc d_Mo_isFit_283 rfl rfl ?_
  refine fm_iload_n hc d_Mo_isFit_284 rfl rfl ?_
  refine fm_iconst (v := nI 0) hc d_Mo_isFit_285 rfl ?_
  refine fm_callV (av := [.int (nI gi), .int (nI 0)]) (rest := []) (ob := 586) (ci := 11) (r0 := ("AgentNetModel", F_Mo, 51)) (y := y_Mo_isInt) (bytes := b_Mo_isInt) hc fm_T0_good (fm_EX_st b x) hex q_1093 q_13 q_1090 q_1092 qs_Mo_isInt pd_Mo_isInt (by decide) (by omega) (by decide) (by decide) rfl rfl (h0) ⟨rfl, rfl, Nat.le_of_ble_eq_true rfl, Nat.le_of_ble_eq_true rfl⟩ ⟨Nat.le_of_ble_eq_true rfl, Nat.le_of_ble_eq_true rfl⟩ d_Mo_isFit_286 (Nat.le_of_ble_eq_true rfl) (fun r n2 M2 hp => ?_)
  obtain ⟨rfl, hq1, hq2⟩ := hp
  replace hq1 := hq1.symm
  replace hq2 := hq2.symm
  subst hq1 hq2
  refine fm_cnt (z' := (0, 0)) rfl (fm_st (st' := [.int (nI 1)]) rfl ?_)
  refine fm_if_ne (tgt := 296) hc d_Mo_isFit_289 rfl (fun _ => ?_) (fun g => absurd g (by decide))
  refine fm_iconst (v := nI 0) hc d_Mo_isFit_296 rfl ?_
  exact fm_zret (ty := .boolean) hc hr (by first | rfl | decide) d_Mo_isFit_297 (Nat.le_refl _) (Nat.le_refl _) ⟨rfl, rfl, rfl⟩
theorem rf_16 {l : Launch} {b : Nat} {x : Nat → Nat} {D : va_G} {dA : Nat → ClassId} {gi y d : Nat} {n : Nat} {M : fm_M} (hn : 629 ≤ n) (hR : fm_RP M) (hg : gi < 98) (hd : M.1 612 gi = nI d) (hd6 : d ≤ 6) (h1 : 0 < d) (h0 : Met l y_Mo_isInt (Cond.code y_Mo_isInt b_Mo_isInt 3 (some .boolean) :: fm_T0) ({ frames := 1, cells := 0, slots := 0, locals := 25 }) (fm_Pc fm_lay fm_nf fm_fk fm_cl b x D dA (fm_tys dA) (fm_EX b x) false [.ref 586, .int (nI gi), .int (nI 0)] n M) (fm_Qc fm_lay fm_nf fm_fk fm_cl b x D dA (fun r n' M' => r = some (.int (nI 0)) ∧ n' = n ∧ M' = M)) 0 0 (fm_A b)) : Met l y_Mo_isFit (Cond.code y_Mo_isFit b_Mo_isFit 4 (some .boolean) :: fm_T0) ({ frames := 3, cells := 0, slots := 0, locals := 80 }) (fm_Pc fm_lay fm_nf fm_fk fm_cl b x D dA (fm_tys dA) (fm_EX b x) false [.ref 586, .int (nI gi), .int (nI 16), .int (nI y)] n M) (fm_Qc fm_lay fm_nf fm_fk fm_cl b x D dA (fun r n' M' => r = some (.int (nI 1)) ∧ n' = n ∧ M' = M)) 0 0 (fm_A b) := by
  refine fm_enter (by decide) (Nat.le_of_ble_eq_true rfl) ?_
  intro p e s m args below meth c9 hc hr hnm hex htg
  refine fm_iload_n hc d_Mo_isFit_0 rfl rfl ?_
  refine fm_tableIn (off := 273) (tgt := 274) hc d_Mo_isFit_1 (by decide) (by decide) rfl rfl ?_
  refine fm_aload_n hc d_Mo_isFit_274 rfl rfl ?_
  refine fm_getR (k := 27) (q := 612) hc K_Mo d_Mo_isFit_275 q_912 rfl (by decide) (by omega) (by decide) (by decide) (by decide) rfl (rp_size hR) ?_
  refine fm_iload_n hc d_Mo_isFit_278 rfl rfl ?_
  refine fm_iald (j := gi) (len := 98) hc 0 d_Mo_isFit_279 (by decide) (by omega) (by decide) rfl (by omega) (by decide) ?_
  refine fm_top (congrArg Value.int hd) ?_
  refine fm_if_le (tgt := 296) hc d_Mo_isFit_280 rfl (fun g => absurd g (fun q => by have := (nI_leI (a := d) (b := 0) (by omega) (by decide)).mp q; omega)) (fun _ => ?_)
  refine fm_aload_n hc d_Mo_isFit_283 rfl rfl ?_
  refine fm_iload_n hc d_Mo_isFit_284 rfl rfl ?_
  refine fm_iconst (v := nI 0) hc d_Mo_isFit_285 rfl ?_
  refine fm_callV (av := [.int (nI gi), .int (nI 0)]) (rest := []) (ob := 586) (ci := 11) (r0 := ("AgentNetModel", F_Mo, 51)) (y := y_Mo_isInt) (bytes := b_Mo_isInt) hc fm_T0_good (fm_EX_st b x) hex q_1093 q_13 q_1090 q_1092 qs_Mo_isInt pd_Mo_isInt (by decide) (by omega) (by decide) (by decide) rfl rfl (h0) ⟨rfl, rfl, Nat.le_of_ble_eq_true rfl, Nat.le_of_ble_eq_true rfl⟩ ⟨Nat.le_of_ble_eq_true rfl, Nat.le_of_ble_eq_true rfl⟩ d_Mo_isFit_286 (Nat.le_of_ble_eq_true rfl) (fun r n2 M2 hp => ?_)
  obtain ⟨rfl, hq1, hq2⟩ := hp
  replace hq1 := hq1.symm
  replace hq2 := hq2.symm
  subst hq1 hq2
  refine fm_cnt (z' := (0, 0)) rfl (fm_st (st' := [.int (nI 0)]) rfl ?_)
  refine fm_if_ne (tgt := 296) hc d_Mo_isFit_289 rfl (fun g => absurd (by decide) g) (fun _ => ?_)
  refine fm_iconst (v := nI 1) hc d_Mo_isFit_292 rfl ?_
  refine fm_goto (tgt := 297) hc d_Mo_isFit_293 rfl ?_
  exact fm_zret (ty := .boolean) hc hr (by first | rfl | decide) d_Mo_isFit_297 (Nat.le_refl _) (Nat.le_refl _) ⟨rfl, rfl, rfl⟩
theorem rf_16n {l : Launch} {b : Nat} {x : Nat → Nat} {D : va_G} {dA : Nat → ClassId} {gi y d : Nat} {n : Nat} {M : fm_M} (hn : 629 ≤ n) (hR : fm_RP M) (hg : gi < 98) (hd : M.1 612 gi = nI d) (hd6 : d ≤ 6) (h1 : d = 0) : Met l y_Mo_isFit (Cond.code y_Mo_isFit b_Mo_isFit 4 (some .boolean) :: fm_T0) ({ frames := 3, cells := 0, slots := 0, locals := 80 }) (fm_Pc fm_lay fm_nf fm_fk fm_cl b x D dA (fm_tys dA) (fm_EX b x) false [.ref 586, .int (nI gi), .int (nI 16), .int (nI y)] n M) (fm_Qc fm_lay fm_nf fm_fk fm_cl b x D dA (fun r n' M' => r = some (.int (nI 0)) ∧ n' = n ∧ M' = M)) 0 0 (fm_A b) := by
  refine fm_enter (by decide) (Nat.le_of_ble_eq_true rfl) ?_
  intro p e s m args below meth c9 hc hr hnm hex htg
  refine fm_iload_n hc d_Mo_isFit_0 rfl rfl ?_
  refine fm_tableIn (off := 273) (tgt := 274) hc d_Mo_isFit_1 (by decide) (by decide) rfl rfl ?_
  refine fm_aload_n hc d_Mo_isFit_274 rfl rfl ?_
  refine fm_getR (k := 27) (q := 612) hc K_Mo d_Mo_isFit_275 q_912 rfl (by decide) (by omega) (by decide) (by decide) (by decide) rfl (rp_size hR) ?_
  refine fm_iload_n hc d_Mo_isFit_278 rfl rfl ?_
  refine fm_iald (j := gi) (len := 98) hc 0 d_Mo_isFit_279 (by decide) (by omega) (by decide) rfl (by omega) (by decide) ?_
  refine fm_top (congrArg Value.int hd) ?_
  refine fm_if_le (tgt := 296) hc d_Mo_isFit_280 rfl (fun _ => ?_) (fun g => absurd (nI_le (a := d) (b := 0) (by omega) (by decide)) g)
  refine fm_iconst (v := nI 0) hc d_Mo_isFit_296 rfl ?_
  exact fm_zret (ty := .boolean) hc hr (by first | rfl | decide) d_Mo_isFit_297 (Nat.le_refl _) (Nat.le_refl _) ⟨rfl, rfl, rfl⟩
theorem rf_16m {l : Launch} {b : Nat} {x : Nat → Nat} {D : va_G} {dA : Nat → ClassId} {gi y d : Nat} {n : Nat} {M : fm_M} (hn : 629 ≤ n) (hR : fm_RP M) (hg : gi < 98) (hd : M.1 612 gi = nI d) (hd6 : d ≤ 6) (h1 : 0 < d) (h0 : Met l y_Mo_isInt (Cond.code y_Mo_isInt b_Mo_isInt 3 (some .boolean) :: fm_T0) ({ frames := 1, cells := 0, slots := 0, locals := 25 }) (fm_Pc fm_lay fm_nf fm_fk fm_cl b x D dA (fm_tys dA) (fm_EX b x) false [.ref 586, .int (nI gi), .int (nI 0)] n M) (fm_Qc fm_lay fm_nf fm_fk fm_cl b x D dA (fun r n' M' => r = some (.int (nI 1)) ∧ n' = n ∧ M' = M)) 0 0 (fm_A b)) : Met l y_Mo_isFit (Cond.code y_Mo_isFit b_Mo_isFit 4 (some .boolean) :: fm_T0) ({ frames := 3, cells := 0, slots := 0, locals := 80 }) (fm_Pc fm_lay fm_nf fm_fk fm_cl b x D dA (fm_tys dA) (fm_EX b x) false [.ref 586, .int (nI gi), .int (nI 16), .int (nI y)] n M) (fm_Qc fm_lay fm_nf fm_fk fm_cl b x D dA (fun r n' M' => r = some (.int (nI 0)) ∧ n' = n ∧ M' = M)) 0 0 (fm_A b) := by
  refine fm_enter (by decide) (Nat.le_of_ble_eq_true rfl) ?_
  intro p e s m args below meth c9 hc hr hnm hex htg
  refine fm_iload_n hc d_Mo_isFit_0 rfl rfl ?_
  refine fm_tableIn (off := 273) (tgt := 274) hc d_Mo_isFit_1 (by decide) (by decide) rfl rfl ?_
  refine fm_aload_n hc d_Mo_isFit_274 rfl rfl ?_
  refine fm_getR (k := 27) (q := 612) hc K_Mo d_Mo_isFit_275 q_912 rfl (by decide) (by omega) (by decide) (by decide) (by decide) rfl (rp_size hR) ?_
  refine fm_iload_n hc d_Mo_isFit_278 rfl rfl ?_
  refine fm_iald (j := gi) (len := 98) hc 0 d_Mo_isFit_279 (by decide) (by omega) (by decide) rfl (by omega) (by decide) ?_
  refine fm_top (congrArg Value.int hd) ?_
  refine fm_if_le (tgt := 296) hc d_Mo_isFit_280 rfl (fun g => absurd g (fun q => by have := (nI_leI (a := d) (b := 0) (by omega) (by decide)).mp q; omega)) (fun _ => ?_)
  refine fm_aload_n hc d_Mo_isFit_283 rfl rfl ?_
  refine fm_iload_n hc d_Mo_isFit_284 rfl rfl ?_
  refine fm_iconst (v := nI 0) hc d_Mo_isFit_285 rfl ?_
  refine fm_callV (av := [.int (nI gi), .int (nI 0)]) (rest := []) (ob := 586) (ci := 11) (r0 := ("AgentNetModel", F_Mo, 51)) (y := y_Mo_isInt) (bytes := b_Mo_isInt) hc fm_T0_good (fm_EX_st b x) hex q_1093 q_13 q_1090 q_1092 qs_Mo_isInt pd_Mo_isInt (by decide) (by omega) (by decide) (by decide) rfl rfl (h0) ⟨rfl, rfl, Nat.le_of_ble_eq_true rfl, Nat.le_of_ble_eq_true rfl⟩ ⟨Nat.le_of_ble_eq_true rfl, Nat.le_of_ble_eq_true rfl⟩ d_Mo_isFit_286 (Nat.le_of_ble_eq_true rfl) (fun r n2 M2 hp => ?_)
  obtain ⟨rfl, hq1, hq2⟩ := hp
  replace hq1 := hq1.symm
  replace hq2 := hq2.symm
  subst hq1 hq2
  refine fm_cnt (z' := (0, 0)) rfl (fm_st (st' := [.int (nI 1)]) rfl ?_)
  refine fm_if_ne (tgt := 296) hc d_Mo_isFit_289 rfl (fun _ => ?_) (fun g => absurd g (by decide))
  refine fm_iconst (v := nI 0) hc d_Mo_isFit_296 rfl ?_
  exact fm_zret (ty := .boolean) hc hr (by first | rfl | decide) d_Mo_isFit_297 (Nat.le_refl _) (Nat.le_refl _) ⟨rfl, rfl, rfl⟩
theorem rf_17 {l : Launch} {b : Nat} {x : Nat → Nat} {D : va_G} {dA : Nat → ClassId} {gi y d : Nat} {n : Nat} {M : fm_M} (hn : 629 ≤ n) (hR : fm_RP M) (hg : gi < 98) (hd : M.1 612 gi = nI d) (hd6 : d ≤ 6) (h1 : 1 < d) (h0 : Met l y_Mo_isInt (Cond.code y_Mo_isInt b_Mo_isInt 3 (some .boolean) :: fm_T0) ({ frames := 1, cells := 0, slots := 0, locals := 25 }) (fm_Pc fm_lay fm_nf fm_fk fm_cl b x D dA (fm_tys dA) (fm_EX b x) false [.ref 586, .int (nI gi), .int (nI 1)] n M) (fm_Qc fm_lay fm_nf fm_fk fm_cl b x D dA (fun r n' M' => r = some (.int (nI 0)) ∧ n' = n ∧ M' = M)) 0 0 (fm_A b)) : Met l y_Mo_isFit (Cond.code y_Mo_isFit b_Mo_isFit 4 (some .boolean) :: fm_T0) ({ frames := 3, cells := 0, slots := 0, locals := 80 }) (fm_Pc fm_lay fm_nf fm_fk fm_cl b x D dA (fm_tys dA) (fm_EX b x) false [.ref 586, .int (nI gi), .int (nI 17), .int (nI y)] n M) (fm_Qc fm_lay fm_nf fm_fk fm_cl b x D dA (fun r n' M' => r = some (.int (nI 1)) ∧ n' = n ∧ M' = M)) 0 0 (fm_A b) := by
  refine fm_enter (by decide) (Nat.le_of_ble_eq_true rfl) ?_
  intro p e s m args below meth c9 hc hr hnm hex htg
  refine fm_iload_n hc d_Mo_isFit_0 rfl rfl ?_
  refine fm_tableIn (off := 297) (tgt := 298) hc d_Mo_isFit_1 (by decide) (by decide) rfl rfl ?_
  refine fm_aload_n hc d_Mo_isFit_298 rfl rfl ?_
  refine fm_getR (k := 27) (q := 612) hc K_Mo d_Mo_isFit_299 q_912 rfl (by decide) (by omega) (by decide) (by decide) (by decide) rfl (rp_size hR) ?_
  refine fm_iload_n hc d_Mo_isFit_302 rfl rfl ?_
  refine fm_iald (j := gi) (len := 98) hc 0 d_Mo_isFit_303 (by decide) (by omega) (by decide) rfl (by omega) (by decide) ?_
  refine fm_top (congrArg Value.int hd) ?_
  refine fm_iconst (v := nI 1) hc d_Mo_isFit_304 rfl ?_
  refine fm_icmp_le (tgt := 321) hc d_Mo_isFit_305 rfl (fun g => absurd g (hnle (a := d) (c := 1) h1 (by omega))) (fun _ => ?_)
  refine fm_aload_n hc d_Mo_isFit_308 rfl rfl ?_
  refine fm_iload_n hc d_Mo_isFit_309 rfl rfl ?_
  refine fm_iconst (v := nI 1) hc d_Mo_isFit_310 rfl ?_
  refine fm_callV (av := [.int (nI gi), .int (nI 1)]) (rest := []) (ob := 586) (ci := 11) (r0 := ("AgentNetModel", F_Mo, 51)) (y := y_Mo_isInt) (bytes := b_Mo_isInt) hc fm_T0_good (fm_EX_st b x) hex q_1093 q_13 q_1090 q_1092 qs_Mo_isInt pd_Mo_isInt (by decide) (by omega) (by decide) (by decide) rfl rfl (h0) ⟨rfl, rfl, Nat.le_of_ble_eq_true rfl, Nat.le_of_ble_eq_true rfl⟩ ⟨Nat.le_of_ble_eq_true rfl, Nat.le_of_ble_eq_true rfl⟩ d_Mo_isFit_311 (Nat.le_of_ble_eq_true rfl) (fun r n2 M2 hp => ?_)
  obtain ⟨rfl, hq1, hq2⟩ := hp
  replace hq1 := hq1.symm
  replace hq2 := hq2.symm
  subst hq1 hq2
  refine fm_cnt (z' := (0, 0)) rfl (fm_st (st' := [.int (nI 0)]) rfl ?_)
  refine fm_if_ne (tgt := 321) hc d_Mo_isFit_314 rfl (fun g => absurd (by decide) g) (fun _ => ?_)
  refine fm_iconst (v := nI 1) hc d_Mo_isFit_317 rfl ?_
  refine fm_goto (tgt := 322) hc d_Mo_isFit_318 rfl ?_
  exact fm_zret (ty := .boolean) hc hr (by first | rfl | decide) d_Mo_isFit_322 (Nat.le_refl _) (Nat.le_refl _) ⟨rfl, rfl, rfl⟩
theorem rf_17n {l : Launch} {b : Nat} {x : Nat → Nat} {D : va_G} {dA : Nat → ClassId} {gi y d : Nat} {n : Nat} {M : fm_M} (hn : 629 ≤ n) (hR : fm_RP M) (hg : gi < 98) (hd : M.1 612 gi = nI d) (hd6 : d ≤ 6) (h1 : d ≤ 1) : Met l y_Mo_isFit (Cond.code y_Mo_isFit b_Mo_isFit 4 (some .boolean) :: fm_T0) ({ frames := 3, cells := 0, slots := 0, locals := 80 }) (fm_Pc fm_lay fm_nf fm_fk fm_cl b x D dA (fm_tys dA) (fm_EX b x) false [.ref 586, .int (nI gi), .int (nI 17), .int (nI y)] n M) (fm_Qc fm_lay fm_nf fm_fk fm_cl b x D dA (fun r n' M' => r = some (.int (nI 0)) ∧ n' = n ∧ M' = M)) 0 0 (fm_A b) := by
  refine fm_enter (by decide) (Nat.le_of_ble_eq_true rfl) ?_
  intro p e s m args below meth c9 hc hr hnm hex htg
  refine fm_iload_n hc d_Mo_isFit_0 rfl rfl ?_
  refine fm_tableIn (off := 297) (tgt := 298) hc d_Mo_isFit_1 (by decide) (by decide) rfl rfl ?_
  refine fm_aload_n hc d_Mo_isFit_298 rfl rfl ?_
  refine fm_getR (k := 27) (q := 612) hc K_Mo d_Mo_isFit_299 q_912 rfl (by decide) (by omega) (by decide) (by decide) (by decide) rfl (rp_size hR) ?_
  refine fm_iload_n hc d_Mo_isFit_302 rfl rfl ?_
  refine fm_iald (j := gi) (len := 98) hc 0 d_Mo_isFit_303 (by decide) (by omega) (by decide) rfl (by omega) (by decide) ?_
  refine fm_top (congrArg Value.int hd) ?_
  refine fm_iconst (v := nI 1) hc d_Mo_isFit_304 rfl ?_
  refine fm_icmp_le (tgt := 321) hc d_Mo_isFit_305 rfl (fun _ => ?_) (fun g => absurd (nI_le h1 (by omega)) g)
  refine fm_iconst (v := nI 0) hc d_Mo_isFit_321 rfl ?_
  exact fm_zret (ty := .boolean) hc hr (by first | rfl | decide) d_Mo_isFit_322 (Nat.le_refl _) (Nat.le_refl _) ⟨rfl, rfl, rfl⟩
theorem rf_17m {l : Launch} {b : Nat} {x : Nat → Nat} {D : va_G} {dA : Nat → ClassId} {gi y d : Nat} {n : Nat} {M : fm_M} (hn : 629 ≤ n) (hR : fm_RP M) (hg : gi < 98) (hd : M.1 612 gi = nI d) (hd6 : d ≤ 6) (h1 : 1 < d) (h0 : Met l y_Mo_isInt (Cond.code y_Mo_isInt b_Mo_isInt 3 (some .boolean) :: fm_T0) ({ frames := 1, cells := 0, slots := 0, locals := 25 }) (fm_Pc fm_lay fm_nf fm_fk fm_cl b x D dA (fm_tys dA) (fm_EX b x) false [.ref 586, .int (nI gi), .int (nI 1)] n M) (fm_Qc fm_lay fm_nf fm_fk fm_cl b x D dA (fun r n' M' => r = some (.int (nI 1)) ∧ n' = n ∧ M' = M)) 0 0 (fm_A b)) : Met l y_Mo_isFit (Cond.code y_Mo_isFit b_Mo_isFit 4 (some .boolean) :: fm_T0) ({ frames := 3, cells := 0, slots := 0, locals := 80 }) (fm_Pc fm_lay fm_nf fm_fk fm_cl b x D dA (fm_tys dA) (fm_EX b x) false [.ref 586, .int (nI gi), .int (nI 17), .int (nI y)] n M) (fm_Qc fm_lay fm_nf fm_fk fm_cl b x D dA (fun r n' M' => r = some (.int (nI 0)) ∧ n' = n ∧ M' = M)) 0 0 (fm_A b) := by
  refine fm_enter (by decide) (Nat.le_of_ble_eq_true rfl) ?_
  intro p e s m args below meth c9 hc hr hnm hex htg
  refine fm_iload_n hc d_Mo_isFit_0 rfl rfl ?_
  refine fm_tableIn (off := 297) (tgt := 298) hc d_Mo_isFit_1 (by decide) (by decide) rfl rfl ?_
  refine fm_aload_n hc d_Mo_isFit_298 rfl rfl ?_
  refine fm_getR (k := 27) (q := 612) hc K_Mo d_Mo_isFit_299 q_912 rfl (by decide) (by omega) (by decide) (by decide) (by decide) rfl (rp_size hR) ?_
  refine fm_iload_n hc d_Mo_isFit_302 rfl rfl ?_
  refine fm_iald (j := gi) (len := 98) hc 0 d_Mo_isFit_303 (by decide) (by omega) (by decide) rfl (by omega) (by decide) ?_
  refine fm_top (congrArg Value.int hd) ?_
  refine fm_iconst (v := nI 1) hc d_Mo_isFit_304 rfl ?_
  refine fm_icmp_le (tgt := 321) hc d_Mo_isFit_305 rfl (fun g => absurd g (hnle (a := d) (c := 1) h1 (by omega))) (fun _ => ?_)
  refine fm_aload_n hc d_Mo_isFit_308 rfl rfl ?_
  refine fm_iload_n hc d_Mo_isFit_309 rfl rfl ?_
  refine fm_iconst (v := nI 1) hc d_Mo_isFit_310 rfl ?_
  refine fm_callV (av := [.int (nI gi), .int (nI 1)]) (rest := []) (ob := 586) (ci := 11) (r0 := ("AgentNetModel", F_Mo, 51)) (y := y_Mo_isInt) (bytes := b_Mo_isInt) hc fm_T0_good (fm_EX_st b x) hex q_1093 q_13 q_1090 q_1092 qs_Mo_isInt pd_Mo_isInt (by decide) (by omega) (by decide) (by decide) rfl rfl (h0) ⟨rfl, rfl, Nat.le_of_ble_eq_true rfl, Nat.le_of_ble_eq_true rfl⟩ ⟨Nat.le_of_ble_eq_true rfl, Nat.le_of_ble_eq_true rfl⟩ d_Mo_isFit_311 (Nat.le_of_ble_eq_true rfl) (fun r n2 M2 hp => ?_)
  obtain ⟨rfl, hq1, hq2⟩ := hp
  replace hq1 := hq1.symm
  replace hq2 := hq2.symm
  subst hq1 hq2
  refine fm_cnt (z' := (0, 0)) rfl (fm_st (st' := [.int (nI 1)]) rfl ?_)
  refine fm_if_ne (tgt := 321) hc d_Mo_isFit_314 rfl (fun _ => ?_) (fun g => absurd g (by decide))
  refine fm_iconst (v := nI 0) hc d_Mo_isFit_321 rfl ?_
  exact fm_zret (ty := .boolean) hc hr (by first | rfl | decide) d_Mo_isFit_322 (Nat.le_refl _) (Nat.le_refl _) ⟨rfl, rfl, rfl⟩
theorem rf_18 {l : Launch} {b : Nat} {x : Nat → Nat} {D : va_G} {dA : Nat → ClassId} {gi y d : Nat} {n : Nat} {M : fm_M} (hn : 629 ≤ n) (hR : fm_RP M) (hg : gi < 98) (hd : M.1 612 gi = nI d) (hd6 : d ≤ 6) (h1 : 1 < d) (h0 : Met l y_Mo_isInt (Cond.code y_Mo_isInt b_Mo_isInt 3 (some .boolean) :: fm_T0) ({ frames := 1, cells := 0, slots := 0, locals := 25 }) (fm_Pc fm_lay fm_nf fm_fk fm_cl b x D dA (fm_tys dA) (fm_EX b x) false [.ref 586, .int (nI gi), .int (nI 1)] n M) (fm_Qc fm_lay fm_nf fm_fk fm_cl b x D dA (fun r n' M' => r = some (.int (nI 0)) ∧ n' = n ∧ M' = M)) 0 0 (fm_A b)) : Met l y_Mo_isFit (Cond.code y_Mo_isFit b_Mo_isFit 4 (some .boolean) :: fm_T0) ({ frames := 3, cells := 0, slots := 0, locals := 80 }) (fm_Pc fm_lay fm_nf fm_fk fm_cl b x D dA (fm_tys dA) (fm_EX b x) false [.ref 586, .int (nI gi), .int (nI 18), .int (nI y)] n M) (fm_Qc fm_lay fm_nf fm_fk fm_cl b x D dA (fun r n' M' => r = some (.int (nI 1)) ∧ n' = n ∧ M' = M)) 0 0 (fm_A b) := by
  refine fm_enter (by decide) (Nat.le_of_ble_eq_true rfl) ?_
  intro p e s m args below meth c9 hc hr hnm hex htg
  refine fm_iload_n hc d_Mo_isFit_0 rfl rfl ?_
  refine fm_tableIn (off := 297) (tgt := 298) hc d_Mo_isFit_1 (by decide) (by decide) rfl rfl ?_
  refine fm_aload_n hc d_Mo_isFit_298 rfl rfl ?_
  refine fm_getR (k := 27) (q := 612) hc K_Mo d_Mo_isFit_299 q_912 rfl (by decide) (by omega) (by decide) (by decide) (by decide) rfl (rp_size hR) ?_
  refine fm_iload_n hc d_Mo_isFit_302 rfl rfl ?_
  refine fm_iald (j := gi) (len := 98) hc 0 d_Mo_isFit_303 (by decide) (by omega) (by decide) rfl (by omega) (by decide) ?_
  refine fm_top (congrArg Value.int hd) ?_
  refine fm_iconst (v := nI 1) hc d_Mo_isFit_304 rfl ?_
  refine fm_icmp_le (tgt := 321) hc d_Mo_isFit_305 rfl (fun g => absurd g (hnle (a := d) (c := 1) h1 (by omega))) (fun _ => ?_)
  refine fm_aload_n hc d_Mo_isFit_308 rfl rfl ?_
  refine fm_iload_n hc d_Mo_isFit_309 rfl rfl ?_
  refine fm_iconst (v := nI 1) hc d_Mo_isFit_310 rfl ?_
  refine fm_callV (av := [.int (nI gi), .int (nI 1)]) (rest := []) (ob := 586) (ci := 11) (r0 := ("AgentNetModel", F_Mo, 51)) (y := y_Mo_isInt) (bytes := b_Mo_isInt) hc fm_T0_good (fm_EX_st b x) hex q_1093 q_13 q_1090 q_1092 qs_Mo_isInt pd_Mo_isInt (by decide) (by omega) (by decide) (by decide) rfl rfl (h0) ⟨rfl, rfl, Nat.le_of_ble_eq_true rfl, Nat.le_of_ble_eq_true rfl⟩ ⟨Nat.le_of_ble_eq_true rfl, Nat.le_of_ble_eq_true rfl⟩ d_Mo_isFit_311 (Nat.le_of_ble_eq_true rfl) (fun r n2 M2 hp => ?_)
  obtain ⟨rfl, hq1, hq2⟩ := hp
  replace hq1 := hq1.symm
  replace hq2 := hq2.symm
  subst hq1 hq2
  refine fm_cnt (z' := (0, 0)) rfl (fm_st (st' := [.int (nI 0)]) rfl ?_)
  refine fm_if_ne (tgt := 321) hc d_Mo_isFit_314 rfl (fun g => absurd (by decide) g) (fun _ => ?_)
  refine fm_iconst (v := nI 1) hc d_Mo_isFit_317 rfl ?_
  refine fm_goto (tgt := 322) hc d_Mo_isFit_318 rfl ?_
  exact fm_zret (ty := .boolean) hc hr (by first | rfl | decide) d_Mo_isFit_322 (Nat.le_refl _) (Nat.le_refl _) ⟨rfl, rfl, rfl⟩
theorem rf_18n {l : Launch} {b : Nat} {x : Nat → Nat} {D : va_G} {dA : Nat → ClassId} {gi y d : Nat} {n : Nat} {M : fm_M} (hn : 629 ≤ n) (hR : fm_RP M) (hg : gi < 98) (hd : M.1 612 gi = nI d) (hd6 : d ≤ 6) (h1 : d ≤ 1) : Met l y_Mo_isFit (Cond.code y_Mo_isFit b_Mo_isFit 4 (some .boolean) :: fm_T0) ({ frames := 3, cells := 0, slots := 0, locals := 80 }) (fm_Pc fm_lay fm_nf fm_fk fm_cl b x D dA (fm_tys dA) (fm_EX b x) false [.ref 586, .int (nI gi), .int (nI 18), .int (nI y)] n M) (fm_Qc fm_lay fm_nf fm_fk fm_cl b x D dA (fun r n' M' => r = some (.int (nI 0)) ∧ n' = n ∧ M' = M)) 0 0 (fm_A b) := by
  refine fm_enter (by decide) (Nat.le_of_ble_eq_true rfl) ?_
  intro p e s m args below meth c9 hc hr hnm hex htg
  refine fm_iload_n hc d_Mo_isFit_0 rfl rfl ?_
  refine fm_tableIn (off := 297) (tgt := 298) hc d_Mo_isFit_1 (by decide) (by decide) rfl rfl ?_
  refine fm_aload_n hc d_Mo_isFit_298 rfl rfl ?_
  refine fm_getR (k := 27) (q := 612) hc K_Mo d_Mo_isFit_299 q_912 rfl (by decide) (by omega) (by decide) (by decide) (by decide) rfl (rp_size hR) ?_
  refine fm_iload_n hc d_Mo_isFit_302 rfl rfl ?_
  refine fm_iald (j := gi) (len := 98) hc 0 d_Mo_isFit_303 (by decide) (by omega) (by decide) rfl (by omega) (by decide) ?_
  refine fm_top (congrArg Value.int hd) ?_
  refine fm_iconst (v := nI 1) hc d_Mo_isFit_304 rfl ?_
  refine fm_icmp_le (tgt := 321) hc d_Mo_isFit_305 rfl (fun _ => ?_) (fun g => absurd (nI_le h1 (by omega)) g)
  refine fm_iconst (v := nI 0) hc d_Mo_isFit_321 rfl ?_
  exact fm_zret (ty := .boolean) hc hr (by first | rfl | decide) d_Mo_isFit_322 (Nat.le_refl _) (Nat.le_refl _) ⟨rfl, rfl, rfl⟩
theorem rf_18m {l : Launch} {b : Nat} {x : Nat → Nat} {D : va_G} {dA : Nat → ClassId} {gi y d : Nat} {n : Nat} {M : fm_M} (hn : 629 ≤ n) (hR : fm_RP M) (hg : gi < 98) (hd : M.1 612 gi = nI d) (hd6 : d ≤ 6) (h1 : 1 < d) (h0 : Met l y_Mo_isInt (Cond.code y_Mo_isInt b_Mo_isInt 3 (some .boolean) :: fm_T0) ({ frames := 1, cells := 0, slots := 0, locals := 25 }) (fm_Pc fm_lay fm_nf fm_fk fm_cl b x D dA (fm_tys dA) (fm_EX b x) false [.ref 586, .int (nI gi), .int (nI 1)] n M) (fm_Qc fm_lay fm_nf fm_fk fm_cl b x D dA (fun r n' M' => r = some (.int (nI 1)) ∧ n' = n ∧ M' = M)) 0 0 (fm_A b)) : Met l y_Mo_isFit (Cond.code y_Mo_isFit b_Mo_isFit 4 (some .boolean) :: fm_T0) ({ frames := 3, cells := 0, slots := 0, locals := 80 }) (fm_Pc fm_lay fm_nf fm_fk fm_cl b x D dA (fm_tys dA) (fm_EX b x) false [.ref 586, .int (nI gi), .int (nI 18), .int (nI y)] n M) (fm_Qc fm_lay fm_nf fm_fk fm_cl b x D dA (fun r n' M' => r = some (.int (nI 0)) ∧ n' = n ∧ M' = M)) 0 0 (fm_A b) := by
  refine fm_enter (by decide) (Nat.le_of_ble_eq_true rfl) ?_
  intro p e s m args below meth c9 hc hr hnm hex htg
  refine fm_iload_n hc d_Mo_isFit_0 rfl rfl ?_
  refine fm_tableIn (off := 297) (tgt := 298) hc d_Mo_isFit_1 (by decide) (by decide) rfl rfl ?_
  refine fm_aload_n hc d_Mo_isFit_298 rfl rfl ?_
  refine fm_getR (k := 27) (q := 612) hc K_Mo d_Mo_isFit_299 q_912 rfl (by decide) (by omega) (by decide) (by decide) (by decide) rfl (rp_size hR) ?_
  refine fm_iload_n hc d_Mo_isFit_302 rfl rfl ?_
  refine fm_iald (j := gi) (len := 98) hc 0 d_Mo_isFit_303 (by decide) (by omega) (by decide) rfl (by omega) (by decide) ?_
  refine fm_top (congrArg Value.int hd) ?_
  refine fm_iconst (v := nI 1) hc d_Mo_isFit_304 rfl ?_
  refine fm_icmp_le (tgt := 321) hc d_Mo_isFit_305 rfl (fun g => absurd g (hnle (a := d) (c := 1) h1 (by omega))) (fun _ => ?_)
  refine fm_aload_n hc d_Mo_isFit_308 rfl rfl ?_
  refine fm_iload_n hc d_Mo_isFit_309 rfl rfl ?_
  refine fm_iconst (v := nI 1) hc d_Mo_isFit_310 rfl ?_
  refine fm_callV (av := [.int (nI gi), .int (nI 1)]) (rest := []) (ob := 586) (ci := 11) (r0 := ("AgentNetModel", F_Mo, 51)) (y := y_Mo_isInt) (bytes := b_Mo_isInt) hc fm_T0_good (fm_EX_st b x) hex q_1093 q_13 q_1090 q_1092 qs_Mo_isInt pd_Mo_isInt (by decide) (by omega) (by decide) (by decide) rfl rfl (h0) ⟨rfl, rfl, Nat.le_of_ble_eq_true rfl, Nat.le_of_ble_eq_true rfl⟩ ⟨Nat.le_of_ble_eq_true rfl, Nat.le_of_ble_eq_true rfl⟩ d_Mo_isFit_311 (Nat.le_of_ble_eq_true rfl) (fun r n2 M2 hp => ?_)
  obtain ⟨rfl, hq1, hq2⟩ := hp
  replace hq1 := hq1.symm
  replace hq2 := hq2.symm
  subst hq1 hq2
  refine fm_cnt (z' := (0, 0)) rfl (fm_st (st' := [.int (nI 1)]) rfl ?_)
  refine fm_if_ne (tgt := 321) hc d_Mo_isFit_314 rfl (fun _ => ?_) (fun g => absurd g (by decide))
  refine fm_iconst (v := nI 0) hc d_Mo_isFit_321 rfl ?_
  exact fm_zret (ty := .boolean) hc hr (by first | rfl | decide) d_Mo_isFit_322 (Nat.le_refl _) (Nat.le_refl _) ⟨rfl, rfl, rfl⟩
theorem rf_19 {l : Launch} {b : Nat} {x : Nat → Nat} {D : va_G} {dA : Nat → ClassId} {gi y d : Nat} {n : Nat} {M : fm_M} (hn : 629 ≤ n) (hR : fm_RP M) (hg : gi < 98) (hd : M.1 612 gi = nI d) (hd6 : d ≤ 6) (h1 : 1 < d) : Met l y_Mo_isFit (Cond.code y_Mo_isFit b_Mo_isFit 4 (some .boolean) :: fm_T0) ({ frames := 3, cells := 0, slots := 0, locals := 80 }) (fm_Pc fm_lay fm_nf fm_fk fm_cl b x D dA (fm_tys dA) (fm_EX b x) false [.ref 586, .int (nI gi), .int (nI 19), .int (nI y)] n M) (fm_Qc fm_lay fm_nf fm_fk fm_cl b x D dA (fun r n' M' => r = some (.int (nI 1)) ∧ n' = n ∧ M' = M)) 0 0 (fm_A b) := by
  refine fm_enter (by decide) (Nat.le_of_ble_eq_true rfl) ?_
  intro p e s m args below meth c9 hc hr hnm hex htg
  refine fm_iload_n hc d_Mo_isFit_0 rfl rfl ?_
  refine fm_tableOut (tgt := 323) hc d_Mo_isFit_1 (by decide) rfl ?_
  refine fm_aload_n hc d_Mo_isFit_323 rfl rfl ?_
  refine fm_getR (k := 27) (q := 612) hc K_Mo d_Mo_isFit_324 q_912 rfl (by decide) (by omega) (by decide) (by decide) (by decide) rfl (rp_size hR) ?_
  refine fm_iload_n hc d_Mo_isFit_327 rfl rfl ?_
  refine fm_iald (j := gi) (len := 98) hc 0 d_Mo_isFit_328 (by decide) (by omega) (by decide) rfl (by omega) (by decide) ?_
  refine fm_top (congrArg Value.int hd) ?_
  refine fm_iconst (v := nI 1) hc d_Mo_isFit_329 rfl ?_
  refine fm_icmp_le (tgt := 337) hc d_Mo_isFit_330 rfl (fun g => absurd g (hnle (a := d) (c := 1) h1 (by omega))) (fun _ => ?_)
  refine fm_iconst (v := nI 1) hc d_Mo_isFit_333 rfl ?_
  refine fm_goto (tgt := 338) hc d_Mo_isFit_334 rfl ?_
  exact fm_zret (ty := .boolean) hc hr (by first | rfl | decide) d_Mo_isFit_338 (Nat.le_refl _) (Nat.le_refl _) ⟨rfl, rfl, rfl⟩
theorem rf_19n {l : Launch} {b : Nat} {x : Nat → Nat} {D : va_G} {dA : Nat → ClassId} {gi y d : Nat} {n : Nat} {M : fm_M} (hn : 629 ≤ n) (hR : fm_RP M) (hg : gi < 98) (hd : M.1 612 gi = nI d) (hd6 : d ≤ 6) (h1 : d ≤ 1) : Met l y_Mo_isFit (Cond.code y_Mo_isFit b_Mo_isFit 4 (some .boolean) :: fm_T0) ({ frames := 3, cells := 0, slots := 0, locals := 80 }) (fm_Pc fm_lay fm_nf fm_fk fm_cl b x D dA (fm_tys dA) (fm_EX b x) false [.ref 586, .int (nI gi), .int (nI 19), .int (nI y)] n M) (fm_Qc fm_lay fm_nf fm_fk fm_cl b x D dA (fun r n' M' => r = some (.int (nI 0)) ∧ n' = n ∧ M' = M)) 0 0 (fm_A b) := by
  refine fm_enter (by decide) (Nat.le_of_ble_eq_true rfl) ?_
  intro p e s m args below meth c9 hc hr hnm hex htg
  refine fm_iload_n hc d_Mo_isFit_0 rfl rfl ?_
  refine fm_tableOut (tgt := 323) hc d_Mo_isFit_1 (by decide) rfl ?_
  refine fm_aload_n hc d_Mo_isFit_323 rfl rfl ?_
  refine fm_getR (k := 27) (q := 612) hc K_Mo d_Mo_isFit_324 q_912 rfl (by decide) (by omega) (by decide) (by decide) (by decide) rfl (rp_size hR) ?_
  refine fm_iload_n hc d_Mo_isFit_327 rfl rfl ?_
  refine fm_iald (j := gi) (len := 98) hc 0 d_Mo_isFit_328 (by decide) (by omega) (by decide) rfl (by omega) (by decide) ?_
  refine fm_top (congrArg Value.int hd) ?_
  refine fm_iconst (v := nI 1) hc d_Mo_isFit_329 rfl ?_
  refine fm_icmp_le (tgt := 337) hc d_Mo_isFit_330 rfl (fun _ => ?_) (fun g => absurd (nI_le h1 (by omega)) g)
  refine fm_iconst (v := nI 0) hc d_Mo_isFit_337 rfl ?_
  exact fm_zret (ty := .boolean) hc hr (by first | rfl | decide) d_Mo_isFit_338 (Nat.le_refl _) (Nat.le_refl _) ⟨rfl, rfl, rfl⟩
theorem rf_14n {l : Launch} {b : Nat} {x : Nat → Nat} {D : va_G} {dA : Nat → ClassId} {gi y d : Nat} {n : Nat} {M : fm_M} (hn : 629 ≤ n) (hR : fm_RP M) (hg : gi < 98) (hd : M.1 612 gi = nI d) (hd6 : d ≤ 6) (h1 : d ≤ 1) : Met l y_Mo_isFit (Cond.code y_Mo_isFit b_Mo_isFit 4 (some .boolean) :: fm_T0) ({ frames := 3, cells := 0, slots := 0, locals := 80 }) (fm_Pc fm_lay fm_nf fm_fk fm_cl b x D dA (fm_tys dA) (fm_EX b x) false [.ref 586, .int (nI gi), .int (nI 14), .int (nI y)] n M) (fm_Qc fm_lay fm_nf fm_fk fm_cl b x D dA (fun r n' M' => r = some (.int (nI 0)) ∧ n' = n ∧ M' = M)) 0 0 (fm_A b) := by
  refine fm_enter (by decide) (Nat.le_of_ble_eq_true rfl) ?_
  intro p e s m args below meth c9 hc hr hnm hex htg
  refine fm_iload_n hc d_Mo_isFit_0 rfl rfl ?_
  refine fm_tableIn (off := 247) (tgt := 248) hc d_Mo_isFit_1 (by decide) (by decide) rfl rfl ?_
  refine fm_aload_n hc d_Mo_isFit_248 rfl rfl ?_
  refine fm_getR (k := 27) (q := 612) hc K_Mo d_Mo_isFit_249 q_912 rfl (by decide) (by omega) (by decide) (by decide) (by decide) rfl (rp_size hR) ?_
  refine fm_iload_n hc d_Mo_isFit_252 rfl rfl ?_
  refine fm_iald (j := gi) (len := 98) hc 0 d_Mo_isFit_253 (by decide) (by omega) (by decide) rfl (by omega) (by decide) ?_
  refine fm_top (congrArg Value.int hd) ?_
  refine fm_iconst (v := nI 1) hc d_Mo_isFit_254 rfl ?_
  refine fm_icmp_le (tgt := 272) hc d_Mo_isFit_255 rfl (fun _ => ?_) (fun g => absurd (nI_le h1 (by omega)) g)
  refine fm_iconst (v := nI 0) hc d_Mo_isFit_272 rfl ?_
  exact fm_zret (ty := .boolean) hc hr (by first | rfl | decide) d_Mo_isFit_273 (Nat.le_refl _) (Nat.le_refl _) ⟨rfl, rfl, rfl⟩
theorem rf_14 {l : Launch} {b : Nat} {x : Nat → Nat} {D : va_G} {dA : Nat → ClassId} {gi y d : Nat} {cnt : Nat} {PR : fm_M → Prop} {n : Nat} {M : fm_M} (hn : 629 ≤ n) (hR : fm_RP M) (hg : gi < 98) (hd : M.1 612 gi = nI d) (hd6 : d ≤ 6) (h1 : 1 < d) (hc9 : cnt < 10) (h2 : cnt < 8) (hre : Met l y_Mo_reach (Cond.code y_Mo_reach b_Mo_reach 3 (some .int) :: fm_T0) ({ frames := 2, cells := 0, slots := 0, locals := 45 }) (fm_Pc fm_lay fm_nf fm_fk fm_cl b x D dA (fm_tys dA) (fm_EX b x) false [.ref 586, .int (nI gi)] n M) (fm_Qc fm_lay fm_nf fm_fk fm_cl b x D dA (fun r n' M' => r = some (.int (nI cnt)) ∧ n' = n ∧ PR M')) 0 0 (fm_A b)) : Met l y_Mo_isFit (Cond.code y_Mo_isFit b_Mo_isFit 4 (some .boolean) :: fm_T0) ({ frames := 3, cells := 0, slots := 0, locals := 80 }) (fm_Pc fm_lay fm_nf fm_fk fm_cl b x D dA (fm_tys dA) (fm_EX b x) false [.ref 586, .int (nI gi), .int (nI 14), .int (nI y)] n M) (fm_Qc fm_lay fm_nf fm_fk fm_cl b x D dA (fun r n' M' => r = some (.int (nI 1)) ∧ n' = n ∧ PR M')) 0 0 (fm_A b) := by
  refine fm_enter (by decide) (Nat.le_of_ble_eq_true rfl) ?_
  intro p e s m args below meth c9 hc hr hnm hex htg
  refine fm_iload_n hc d_Mo_isFit_0 rfl rfl ?_
  refine fm_tableIn (off := 247) (tgt := 248) hc d_Mo_isFit_1 (by decide) (by decide) rfl rfl ?_
  refine fm_aload_n hc d_Mo_isFit_248 rfl rfl ?_
  refine fm_getR (k := 27) (q := 612) hc K_Mo d_Mo_isFit_249 q_912 rfl (by decide) (by omega) (by decide) (by decide) (by decide) rfl (rp_size hR) ?_
  refine fm_iload_n hc d_Mo_isFit_252 rfl rfl ?_
  refine fm_iald (j := gi) (len := 98) hc 0 d_Mo_isFit_253 (by decide) (by omega) (by decide) rfl (by omega) (by decide) ?_
  refine fm_top (congrArg Value.int hd) ?_
  refine fm_iconst (v := nI 1) hc d_Mo_isFit_254 rfl ?_
  refine fm_icmp_le (tgt := 272) hc d_Mo_isFit_255 rfl (fun g => absurd g (hnle (a := d) (c := 1) h1 (by omega))) (fun _ => ?_)
  refine fm_aload_n hc d_Mo_isFit_258 rfl rfl ?_
  refine fm_iload_n hc d_Mo_isFit_259 rfl rfl ?_
  refine fm_callV (av := [.int (nI gi)]) (rest := []) (ob := 586) (ci := 11) (r0 := ("AgentNetModel", F_Mo, 51)) (y := y_Mo_reach) (bytes := b_Mo_reach) hc fm_T0_good (fm_EX_st b x) hex q_1106 q_13 q_1103 q_1105 qs_Mo_reach pd_Mo_reach (by decide) (by omega) (by decide) (by decide) rfl rfl (hre) ⟨rfl, rfl, Nat.le_of_ble_eq_true rfl, Nat.le_of_ble_eq_true rfl⟩ ⟨Nat.le_of_ble_eq_true rfl, Nat.le_of_ble_eq_true rfl⟩ d_Mo_isFit_260 (Nat.le_of_ble_eq_true rfl) (fun r n2 M2 hp => ?_)
  obtain ⟨rfl, hq1, hpp⟩ := hp
  replace hq1 := hq1.symm
  subst hq1
  refine fm_cnt (z' := (0, 0)) rfl (fm_st (st' := [.int (nI cnt)]) rfl ?_)
  refine fm_bipush (v := nI 8) hc d_Mo_isFit_263 rfl ?_
  refine fm_icmp_ge (tgt := 272) hc d_Mo_isFit_265 rfl (fun g => absurd g (hnle (a := 8) (c := cnt) h2 (by omega))) (fun _ => ?_)
  refine fm_iconst (v := nI 1) hc d_Mo_isFit_268 rfl ?_
  refine fm_goto (tgt := 273) hc d_Mo_isFit_269 rfl ?_
  exact fm_zret (ty := .boolean) hc hr (by first | rfl | decide) d_Mo_isFit_273 (Nat.le_refl _) (Nat.le_refl _) ⟨rfl, rfl, hpp⟩
theorem rf_14m {l : Launch} {b : Nat} {x : Nat → Nat} {D : va_G} {dA : Nat → ClassId} {gi y d : Nat} {cnt : Nat} {PR : fm_M → Prop} {n : Nat} {M : fm_M} (hn : 629 ≤ n) (hR : fm_RP M) (hg : gi < 98) (hd : M.1 612 gi = nI d) (hd6 : d ≤ 6) (h1 : 1 < d) (hc9 : cnt < 10) (h2 : 8 ≤ cnt) (hre : Met l y_Mo_reach (Cond.code y_Mo_reach b_Mo_reach 3 (some .int) :: fm_T0) ({ frames := 2, cells := 0, slots := 0, locals := 45 }) (fm_Pc fm_lay fm_nf fm_fk fm_cl b x D dA (fm_tys dA) (fm_EX b x) false [.ref 586, .int (nI gi)] n M) (fm_Qc fm_lay fm_nf fm_fk fm_cl b x D dA (fun r n' M' => r = some (.int (nI cnt)) ∧ n' = n ∧ PR M')) 0 0 (fm_A b)) : Met l y_Mo_isFit (Cond.code y_Mo_isFit b_Mo_isFit 4 (some .boolean) :: fm_T0) ({ frames := 3, cells := 0, slots := 0, locals := 80 }) (fm_Pc fm_lay fm_nf fm_fk fm_cl b x D dA (fm_tys dA) (fm_EX b x) false [.ref 586, .int (nI gi), .int (nI 14), .int (nI y)] n M) (fm_Qc fm_lay fm_nf fm_fk fm_cl b x D dA (fun r n' M' => r = some (.int (nI 0)) ∧ n' = n ∧ PR M')) 0 0 (fm_A b) := by
  refine fm_enter (by decide) (Nat.le_of_ble_eq_true rfl) ?_
  intro p e s m args below meth c9 hc hr hnm hex htg
  refine fm_iload_n hc d_Mo_isFit_0 rfl rfl ?_
  refine fm_tableIn (off := 247) (tgt := 248) hc d_Mo_isFit_1 (by decide) (by decide) rfl rfl ?_
  refine fm_aload_n hc d_Mo_isFit_248 rfl rfl ?_
  refine fm_getR (k := 27) (q := 612) hc K_Mo d_Mo_isFit_249 q_912 rfl (by decide) (by omega) (by decide) (by decide) (by decide) rfl (rp_size hR) ?_
  refine fm_iload_n hc d_Mo_isFit_252 rfl rfl ?_
  refine fm_iald (j := gi) (len := 98) hc 0 d_Mo_isFit_253 (by decide) (by omega) (by decide) rfl (by omega) (by decide) ?_
  refine fm_top (congrArg Value.int hd) ?_
  refine fm_iconst (v := nI 1) hc d_Mo_isFit_254 rfl ?_
  refine fm_icmp_le (tgt := 272) hc d_Mo_isFit_255 rfl (fun g => absurd g (hnle (a := d) (c := 1) h1 (by omega))) (fun _ => ?_)
  refine fm_aload_n hc d_Mo_isFit_258 rfl rfl ?_
  refine fm_iload_n hc d_Mo_isFit_259 rfl rfl ?_
  refine fm_callV (av := [.int (nI gi)]) (rest := []) (ob := 586) (ci := 11) (r0 := ("AgentNetModel", F_Mo, 51)) (y := y_Mo_reach) (bytes := b_Mo_reach) hc fm_T0_good (fm_EX_st b x) hex q_1106 q_13 q_1103 q_1105 qs_Mo_reach pd_Mo_reach (by decide) (by omega) (by decide) (by decide) rfl rfl (hre) ⟨rfl, rfl, Nat.le_of_ble_eq_true rfl, Nat.le_of_ble_eq_true rfl⟩ ⟨Nat.le_of_ble_eq_true rfl, Nat.le_of_ble_eq_true rfl⟩ d_Mo_isFit_260 (Nat.le_of_ble_eq_true rfl) (fun r n2 M2 hp => ?_)
  obtain ⟨rfl, hq1, hpp⟩ := hp
  replace hq1 := hq1.symm
  subst hq1
  refine fm_cnt (z' := (0, 0)) rfl (fm_st (st' := [.int (nI cnt)]) rfl ?_)
  refine fm_bipush (v := nI 8) hc d_Mo_isFit_263 rfl ?_
  refine fm_icmp_ge (tgt := 272) hc d_Mo_isFit_265 rfl (fun _ => ?_) (fun g => absurd (nI_le h2 (by omega)) g)
  refine fm_iconst (v := nI 0) hc d_Mo_isFit_272 rfl ?_
  exact fm_zret (ty := .boolean) hc hr (by first | rfl | decide) d_Mo_isFit_273 (Nat.le_refl _) (Nat.le_refl _) ⟨rfl, rfl, hpp⟩
