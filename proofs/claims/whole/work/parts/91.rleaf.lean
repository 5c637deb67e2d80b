/-! THE REFERENCE: top, push, pop, isInt, isUpTo, isWide -/
theorem rc_top {l : Launch} {b : Nat} {x : Nat → Nat} {D : va_G} {dA : Nat → ClassId} {gi j d : Nat}   {n : Nat} {M : fm_M} (hn : 629 ≤ n) (hR : fm_RP M) (hg : gi < 98) (hd : M.1 612 gi = nI d) (hd6 : d ≤ 6) (hj : j < d) : Met l y_Mo_top (Cond.code y_Mo_top b_Mo_top 3 (some .long) :: fm_T0) ({ frames := 0, cells := 0, slots := 0, locals := 0 }) (fm_Pc fm_lay fm_nf fm_fk fm_cl b x D dA (fm_tys dA) (fm_EX b x) false [.ref 586, .int (nI gi), .int (nI j)] n M) (fm_Qc fm_lay fm_nf fm_fk fm_cl b x D dA (fun r n' M' => r = some (.long (M.2.1 613 (6 * gi + d - 1 - j))) ∧ n' = n ∧ M' = M)) 0 0 (fm_A b) := by
  refine fm_enter (by decide) (Nat.le_of_ble_eq_true rfl) ?_
  intro p e s m args below meth c9 hc hr hnm hex htg
  refine fm_aload_n hc d_Mo_top_0 rfl rfl ?_
  refine fm_getR (k := 28) (q := 613) hc K_Mo d_Mo_top_1 q_913 rfl (by decide) (by omega) (by decide) (by decide) (by decide) rfl (rp_stack hR) ?_
  refine fm_bipush (v := nI 6) hc d_Mo_top_4 rfl ?_
  refine fm_iload_n hc d_Mo_top_6 rfl rfl ?_
  refine fm_imul hc d_Mo_top_7 ?_
  refine fm_top (congrArg Value.int (pk_mul 6 gi)) ?_
  refine fm_aload_n hc d_Mo_top_8 rfl rfl ?_
  refine fm_getR (k := 27) (q := 612) hc K_Mo d_Mo_top_9 q_912 rfl (by decide) (by omega) (by decide) (by decide) (by decide) rfl (rp_size hR) ?_
  refine fm_iload_n hc d_Mo_top_12 rfl rfl ?_
  refine fm_iald (j := gi) (len := 98) hc 0 d_Mo_top_13 (by decide) (by omega) (by decide) rfl (by omega) (by decide) ?_
  refine fm_top (congrArg Value.int hd) ?_
  refine fm_iadd hc d_Mo_top_14 ?_
  refine fm_top (congrArg Value.int (nI_add (6 * gi) d)) ?_
  refine fm_iconst (v := nI 1) hc d_Mo_top_15 rfl ?_
  refine fm_isub hc d_Mo_top_16 ?_
  refine fm_top (congrArg Value.int (pk_sub (a := (6 * gi) + d) (b := 1) (by omega))) ?_
  refine fm_iload_n hc d_Mo_top_17 rfl rfl ?_
  refine fm_isub hc d_Mo_top_18 ?_
  refine fm_top (congrArg Value.int (pk_sub (a := ((6 * gi) + d) - 1) (b := j) (by omega))) ?_
  refine fm_lald (j := (((6 * gi) + d) - 1) - j) (len := 588) hc 3 d_Mo_top_19 (by decide) (by omega) (by decide) rfl (by omega) (by decide) ?_
  exact fm_lret hc hr d_Mo_top_20 (Nat.le_refl _) (Nat.le_refl _) ⟨rfl, rfl, rfl⟩
theorem rc_push {l : Launch} {b : Nat} {x : Nat → Nat} {D : va_G} {dA : Nat → ClassId} {gi d : Nat} {v : Int64}  {n : Nat} {M : fm_M} (hn : 629 ≤ n) (hR : fm_RP M) (hg : gi < 98) (hd : M.1 612 gi = nI d) (hd6 : d < 6) : Met l y_Mo_push (Cond.code y_Mo_push b_Mo_push 4 none :: fm_T0) ({ frames := 0, cells := 0, slots := 0, locals := 0 }) (fm_Pc fm_lay fm_nf fm_fk fm_cl b x D dA (fm_tys dA) (fm_EX b x) false [.ref 586, .int (nI gi), .long v] n M) (fm_Qc fm_lay fm_nf fm_fk fm_cl b x D dA (fun r n' M' => r = none ∧ n' = n ∧ M' = fm_put1 (fm_put2 M 613 (6 * gi + d) v) 612 gi (nI (d + 1)))) 0 0 (fm_A b) := by
  refine fm_enter (by decide) (Nat.le_of_ble_eq_true rfl) ?_
  intro p e s m args below meth c9 hc hr hnm hex htg
  refine fm_aload_n hc d_Mo_push_0 rfl rfl ?_
  refine fm_getR (k := 28) (q := 613) hc K_Mo d_Mo_push_1 q_913 rfl (by decide) (by omega) (by decide) (by decide) (by decide) rfl (rp_stack hR) ?_
  refine fm_bipush (v := nI 6) hc d_Mo_push_4 rfl ?_
  refine fm_iload_n hc d_Mo_push_6 rfl rfl ?_
  refine fm_imul hc d_Mo_push_7 ?_
  refine fm_top (congrArg Value.int (pk_mul 6 gi)) ?_
  refine fm_aload_n hc d_Mo_push_8 rfl rfl ?_
  refine fm_getR (k := 27) (q := 612) hc K_Mo d_Mo_push_9 q_912 rfl (by decide) (by omega) (by decide) (by decide) (by decide) rfl (rp_size hR) ?_
  refine fm_iload_n hc d_Mo_push_12 rfl rfl ?_
  refine fm_iald (j := gi) (len := 98) hc 0 d_Mo_push_13 (by decide) (by omega) (by decide) rfl (by omega) (by decide) ?_
  refine fm_top (congrArg Value.int hd) ?_
  refine fm_iadd hc d_Mo_push_14 ?_
  refine fm_top (congrArg Value.int (nI_add (6 * gi) d)) ?_
  refine fm_lload_n hc d_Mo_push_15 rfl rfl ?_
  refine fm_last (j := (6 * gi) + d) (len := 588) (v := v) hc 3 d_Mo_push_16 (by decide) (by omega) (by decide) rfl (by omega) (by decide) ?_
  refine fm_aload_n hc d_Mo_push_17 rfl rfl ?_
  refine fm_getR (k := 27) (q := 612) hc K_Mo d_Mo_push_18 q_912 rfl (by decide) (by omega) (by decide) (by decide) (by decide) rfl (rp_size hR) ?_
  refine fm_iload_n hc d_Mo_push_21 rfl rfl ?_
  refine fm_dup2_11 hc d_Mo_push_22 rfl rfl ?_
  refine fm_iald (j := gi) (len := 98) hc 0 d_Mo_push_23 (by decide) (by omega) (by decide) rfl (by omega) (by decide) ?_
  refine fm_top (congrArg Value.int hd) ?_
  refine fm_iconst (v := nI 1) hc d_Mo_push_24 rfl ?_
  refine fm_iadd hc d_Mo_push_25 ?_
  refine fm_top (congrArg Value.int (nI_add d 1)) ?_
  refine fm_iast (j := gi) (len := 98) (v := nI (d + 1)) hc 0 d_Mo_push_26 (by decide) (by omega) (by decide) rfl (by omega) (by decide) ?_
  exact fm_vret hc hr d_Mo_push_27 (Nat.le_refl _) (Nat.le_refl _) ⟨rfl, rfl, rfl⟩
theorem rc_pop {l : Launch} {b : Nat} {x : Nat → Nat} {D : va_G} {dA : Nat → ClassId} {gi d : Nat}   {n : Nat} {M : fm_M} (hn : 629 ≤ n) (hR : fm_RP M) (hg : gi < 98) (hd : M.1 612 gi = nI d) (hd6 : d ≤ 6) (hd1 : 1 ≤ d) : Met l y_Mo_pop (Cond.code y_Mo_pop b_Mo_pop 2 (some .long) :: fm_T0) ({ frames := 0, cells := 0, slots := 0, locals := 0 }) (fm_Pc fm_lay fm_nf fm_fk fm_cl b x D dA (fm_tys dA) (fm_EX b x) false [.ref 586, .int (nI gi)] n M) (fm_Qc fm_lay fm_nf fm_fk fm_cl b x D dA (fun r n' M' => r = some (.long (M.2.1 613 (6 * gi + (d - 1)))) ∧ n' = n ∧ M' = fm_put1 M 612 gi (nI (d - 1)))) 0 0 (fm_A b) := by
  refine fm_enter (by decide) (Nat.le_of_ble_eq_true rfl) ?_
  intro p e s m args below meth c9 hc hr hnm hex htg
  refine fm_aload_n hc d_Mo_pop_0 rfl rfl ?_
  refine fm_getR (k := 27) (q := 612) hc K_Mo d_Mo_pop_1 q_912 rfl (by decide) (by omega) (by decide) (by decide) (by decide) rfl (rp_size hR) ?_
  refine fm_iload_n hc d_Mo_pop_4 rfl rfl ?_
  refine fm_dup2_11 hc d_Mo_pop_5 rfl rfl ?_
  refine fm_iald (j := gi) (len := 98) hc 0 d_Mo_pop_6 (by decide) (by omega) (by decide) rfl (by omega) (by decide) ?_
  refine fm_top (congrArg Value.int hd) ?_
  refine fm_iconst (v := nI 1) hc d_Mo_pop_7 rfl ?_
  refine fm_isub hc d_Mo_pop_8 ?_
  refine fm_top (congrArg Value.int (pk_sub (a := d) (b := 1) (by omega))) ?_
  refine fm_iast (j := gi) (len := 98) (v := nI (d - 1)) hc 0 d_Mo_pop_9 (by decide) (by omega) (by decide) rfl (by omega) (by decide) ?_
  refine fm_aload_n hc d_Mo_pop_10 rfl rfl ?_
  refine fm_getR (k := 28) (q := 613) hc K_Mo d_Mo_pop_11 q_913 rfl (by decide) (by omega) (by decide) (by decide) (by decide) rfl (rp_stack hR) ?_
  refine fm_bipush (v := nI 6) hc d_Mo_pop_14 rfl ?_
  refine fm_iload_n hc d_Mo_pop_16 rfl rfl ?_
  refine fm_imul hc d_Mo_pop_17 ?_
  refine fm_top (congrArg Value.int (pk_mul 6 gi)) ?_
  refine fm_aload_n hc d_Mo_pop_18 rfl rfl ?_
  refine fm_getR (k := 27) (q := 612) hc K_Mo d_Mo_pop_19 q_912 rfl (by decide) (by omega) (by decide) (by decide) (by decide) rfl (rp_size hR) ?_
  refine fm_iload_n hc d_Mo_pop_22 rfl rfl ?_
  refine fm_iald (j := gi) (len := 98) hc 0 d_Mo_pop_23 (by decide) (by omega) (by decide) rfl (by omega) (by decide) ?_
  refine fm_top (congrArg Value.int (p1_same _ _ _ _)) ?_
  refine fm_iadd hc d_Mo_pop_24 ?_
  refine fm_top (congrArg Value.int (nI_add (6 * gi) (d - 1))) ?_
  refine fm_lald (j := (6 * gi) + (d - 1)) (len := 588) hc 3 d_Mo_pop_25 (by decide) (by omega) (by decide) rfl (by omega) (by decide) ?_
  exact fm_lret hc hr d_Mo_pop_26 (Nat.le_refl _) (Nat.le_refl _) ⟨rfl, rfl, rfl⟩
theorem rc_isInt_few {l : Launch} {b : Nat} {x : Nat → Nat} {D : va_G} {dA : Nat → ClassId} {gi j d : Nat}   {n : Nat} {M : fm_M} (hn : 629 ≤ n) (hR : fm_RP M) (hg : gi < 98) (hd : M.1 612 gi = nI d) (hd6 : d ≤ 6) (hj6 : j < 10) (hj : d ≤ j) : Met l y_Mo_isInt (Cond.code y_Mo_isInt b_Mo_isInt 3 (some .boolean) :: fm_T0) ({ frames := 1, cells := 0, slots := 0, locals := 25 }) (fm_Pc fm_lay fm_nf fm_fk fm_cl b x D dA (fm_tys dA) (fm_EX b x) false [.ref 586, .int (nI gi), .int (nI j)] n M) (fm_Qc fm_lay fm_nf fm_fk fm_cl b x D dA (fun r n' M' => r = some (.int (nI 0)) ∧ n' = n ∧ M' = M)) 0 0 (fm_A b) := by
  refine fm_enter (by decide) (Nat.le_of_ble_eq_true rfl) ?_
  intro p e s m args below meth c9 hc hr hnm hex htg
  refine fm_aload_n hc d_Mo_isInt_0 rfl rfl ?_
  refine fm_getR (k := 27) (q := 612) hc K_Mo d_Mo_isInt_1 q_912 rfl (by decide) (by omega) (by decide) (by decide) (by decide) rfl (rp_size hR) ?_
  refine fm_iload_n hc d_Mo_isInt_4 rfl rfl ?_
  refine fm_iald (j := gi) (len := 98) hc 0 d_Mo_isInt_5 (by decide) (by omega) (by decide) rfl (by omega) (by decide) ?_
  refine fm_top (congrArg Value.int hd) ?_
  refine fm_iload_n hc d_Mo_isInt_6 rfl rfl ?_
  refine fm_icmp_le (tgt := 27) hc d_Mo_isInt_7 rfl (fun _ => ?_) (fun g => absurd (nI_le hj (by omega)) g)
  refine fm_iconst (v := nI 0) hc d_Mo_isInt_27 rfl ?_
  exact fm_zret (ty := .boolean) hc hr (by first | rfl | decide) d_Mo_isInt_28 (Nat.le_refl _) (Nat.le_refl _) ⟨rfl, rfl, rfl⟩
theorem rc_isInt_int {l : Launch} {b : Nat} {x : Nat → Nat} {D : va_G} {dA : Nat → ClassId} {gi j d : Nat}   {n : Nat} {M : fm_M} (hn : 629 ≤ n) (hR : fm_RP M) (hg : gi < 98) (hd : M.1 612 gi = nI d) (hd6 : d ≤ 6) (hj : j < d) (hv : M.2.1 613 (6 * gi + d - 1 - j) < 1099511627776) : Met l y_Mo_isInt (Cond.code y_Mo_isInt b_Mo_isInt 3 (some .boolean) :: fm_T0) ({ frames := 1, cells := 0, slots := 0, locals := 25 }) (fm_Pc fm_lay fm_nf fm_fk fm_cl b x D dA (fm_tys dA) (fm_EX b x) false [.ref 586, .int (nI gi), .int (nI j)] n M) (fm_Qc fm_lay fm_nf fm_fk fm_cl b x D dA (fun r n' M' => r = some (.int (nI 1)) ∧ n' = n ∧ M' = M)) 0 0 (fm_A b) := by
  refine fm_enter (by decide) (Nat.le_of_ble_eq_true rfl) ?_
  intro p e s m args below meth c9 hc hr hnm hex htg
  refine fm_aload_n hc d_Mo_isInt_0 rfl rfl ?_
  refine fm_getR (k := 27) (q := 612) hc K_Mo d_Mo_isInt_1 q_912 rfl (by decide) (by omega) (by decide) (by decide) (by decide) rfl (rp_size hR) ?_
  refine fm_iload_n hc d_Mo_isInt_4 rfl rfl ?_
  refine fm_iald (j := gi) (len := 98) hc 0 d_Mo_isInt_5 (by decide) (by omega) (by decide) rfl (by omega) (by decide) ?_
  refine fm_top (congrArg Value.int hd) ?_
  refine fm_iload_n hc d_Mo_isInt_6 rfl rfl ?_
  refine fm_icmp_le (tgt := 27) hc d_Mo_isInt_7 rfl (fun g => absurd g (hnle (a := d) (c := j) hj (by omega))) (fun _ => ?_)
  refine fm_aload_n hc d_Mo_isInt_10 rfl rfl ?_
  refine fm_iload_n hc d_Mo_isInt_11 rfl rfl ?_
  refine fm_iload_n hc d_Mo_isInt_12 rfl rfl ?_
  refine fm_callV (av := [.int (nI gi), .int (nI j)]) (rest := []) (ob := 586) (ci := 11) (r0 := ("AgentNetModel", F_Mo, 51)) (y := y_Mo_top) (bytes := b_Mo_top) hc fm_T0_good (fm_EX_st b x) hex q_1097 q_13 q_1094 q_1096 qs_Mo_top pd_Mo_top (by decide) (by omega) (by decide) (by decide) rfl rfl (rc_top hn hR hg hd hd6 (by omega)) ⟨rfl, rfl, Nat.le_of_ble_eq_true rfl, Nat.le_of_ble_eq_true rfl⟩ ⟨Nat.le_of_ble_eq_true rfl, Nat.le_of_ble_eq_true rfl⟩ d_Mo_isInt_13 (Nat.le_of_ble_eq_true rfl) (fun r n2 M2 hp => ?_)
  obtain ⟨rfl, hq1, hq2⟩ := hp
  replace hq1 := hq1.symm
  replace hq2 := hq2.symm
  subst hq1 hq2
  refine fm_cnt (z' := (0, 0)) rfl (fm_st (st' := [.long (M.2.1 613 (6 * gi + d - 1 - j))]) rfl ?_)
  refine fm_ldc2 (v := 1099511627776) hc d_Mo_isInt_16 q_1098 ?_
  refine fm_lcmp hc d_Mo_isInt_19 ?_
  refine fm_if_ge (tgt := 27) hc d_Mo_isInt_20 rfl (fun g => absurd g (fun q => absurd hv (Int64.not_lt.mpr ((lg_cmp_ge _ _).mp q)))) (fun _ => ?_)
  refine fm_iconst (v := nI 1) hc d_Mo_isInt_23 rfl ?_
  refine fm_goto (tgt := 28) hc d_Mo_isInt_24 rfl ?_
  exact fm_zret (ty := .boolean) hc hr (by first | rfl | decide) d_Mo_isInt_28 (Nat.le_refl _) (Nat.le_refl _) ⟨rfl, rfl, rfl⟩
theorem rc_isInt_pair {l : Launch} {b : Nat} {x : Nat → Nat} {D : va_G} {dA : Nat → ClassId} {gi j d : Nat}   {n : Nat} {M : fm_M} (hn : 629 ≤ n) (hR : fm_RP M) (hg : gi < 98) (hd : M.1 612 gi = nI d) (hd6 : d ≤ 6) (hj : j < d) (hv : ¬ M.2.1 613 (6 * gi + d - 1 - j) < 1099511627776) : Met l y_Mo_isInt (Cond.code y_Mo_isInt b_Mo_isInt 3 (some .boolean) :: fm_T0) ({ frames := 1, cells := 0, slots := 0, locals := 25 }) (fm_Pc fm_lay fm_nf fm_fk fm_cl b x D dA (fm_tys dA) (fm_EX b x) false [.ref 586, .int (nI gi), .int (nI j)] n M) (fm_Qc fm_lay fm_nf fm_fk fm_cl b x D dA (fun r n' M' => r = some (.int (nI 0)) ∧ n' = n ∧ M' = M)) 0 0 (fm_A b) := by
  refine fm_enter (by decide) (Nat.le_of_ble_eq_true rfl) ?_
  intro p e s m args below meth c9 hc hr hnm hex htg
  refine fm_aload_n hc d_Mo_isInt_0 rfl rfl ?_
  refine fm_getR (k := 27) (q := 612) hc K_Mo d_Mo_isInt_1 q_912 rfl (by decide) (by omega) (by decide) (by decide) (by decide) rfl (rp_size hR) ?_
  refine fm_iload_n hc d_Mo_isInt_4 rfl rfl ?_
  refine fm_iald (j := gi) (len := 98) hc 0 d_Mo_isInt_5 (by decide) (by omega) (by decide) rfl (by omega) (by decide) ?_
  refine fm_top (congrArg Value.int hd) ?_
  refine fm_iload_n hc d_Mo_isInt_6 rfl rfl ?_
  refine fm_icmp_le (tgt := 27) hc d_Mo_isInt_7 rfl (fun g => absurd g (hnle (a := d) (c := j) hj (by omega))) (fun _ => ?_)
  refine fm_aload_n hc d_Mo_isInt_10 rfl rfl ?_
  refine fm_iload_n hc d_Mo_isInt_11 rfl rfl ?_
  refine fm_iload_n hc d_Mo_isInt_12 rfl rfl ?_
  refine fm_callV (av := [.int (nI gi), .int (nI j)]) (rest := []) (ob := 586) (ci := 11) (r0 := ("AgentNetModel", F_Mo, 51)) (y := y_Mo_top) (bytes := b_Mo_top) hc fm_T0_good (fm_EX_st b x) hex q_1097 q_13 q_1094 q_1096 qs_Mo_top pd_Mo_top (by decide) (by omega) (by decide) (by decide) rfl rfl (rc_top hn hR hg hd hd6 (by omega)) ⟨rfl, rfl, Nat.le_of_ble_eq_true rfl, Nat.le_of_ble_eq_true rfl⟩ ⟨Nat.le_of_ble_eq_true rfl, Nat.le_of_ble_eq_true rfl⟩ d_Mo_isInt_13 (Nat.le_of_ble_eq_true rfl) (fun r n2 M2 hp => ?_)
  obtain ⟨rfl, hq1, hq2⟩ := hp
  replace hq1 := hq1.symm
  replace hq2 := hq2.symm
  subst hq1 hq2
  refine fm_cnt (z' := (0, 0)) rfl (fm_st (st' := [.long (M.2.1 613 (6 * gi + d - 1 - j))]) rfl ?_)
  refine fm_ldc2 (v := 1099511627776) hc d_Mo_isInt_16 q_1098 ?_
  refine fm_lcmp hc d_Mo_isInt_19 ?_
  refine fm_if_ge (tgt := 27) hc d_Mo_isInt_20 rfl (fun _ => ?_) (fun g => absurd ((lg_cmp_ge _ _).mpr (Int64.not_lt.mp hv)) g)
  refine fm_iconst (v := nI 0) hc d_Mo_isInt_27 rfl ?_
  exact fm_zret (ty := .boolean) hc hr (by first | rfl | decide) d_Mo_isInt_28 (Nat.le_refl _) (Nat.le_refl _) ⟨rfl, rfl, rfl⟩
theorem rc_upto_no {l : Launch} {b : Nat} {x : Nat → Nat} {D : va_G} {dA : Nat → ClassId} {gi mx : Nat}   {n : Nat} {M : fm_M} (hn : 629 ≤ n) (hR : fm_RP M) (hi : Met l y_Mo_isInt (Cond.code y_Mo_isInt b_Mo_isInt 3 (some .boolean) :: fm_T0) ({ frames := 1, cells := 0, slots := 0, locals := 25 }) (fm_Pc fm_lay fm_nf fm_fk fm_cl b x D dA (fm_tys dA) (fm_EX b x) false [.ref 586, .int (nI gi), .int (nI 0)] n M) (fm_Qc fm_lay fm_nf fm_fk fm_cl b x D dA (fun r n' M' => r = some (.int (nI 0)) ∧ n' = n ∧ M' = M)) 0 0 (fm_A b)) : Met l y_Mo_isUpTo (Cond.code y_Mo_isUpTo b_Mo_isUpTo 3 (some .boolean) :: fm_T0) ({ frames := 2, cells := 0, slots := 0, locals := 50 }) (fm_Pc fm_lay fm_nf fm_fk fm_cl b x D dA (fm_tys dA) (fm_EX b x) false [.ref 586, .int (nI gi), .int (nI mx)] n M) (fm_Qc fm_lay fm_nf fm_fk fm_cl b x D dA (fun r n' M' => r = some (.int (nI 0)) ∧ n' = n ∧ M' = M)) 0 0 (fm_A b) := by
  refine fm_enter (by decide) (Nat.le_of_ble_eq_true rfl) ?_
  intro p e s m args below meth c9 hc hr hnm hex htg
  refine fm_aload_n hc d_Mo_isUpTo_0 rfl rfl ?_
  refine fm_iload_n hc d_Mo_isUpTo_1 rfl rfl ?_
  refine fm_iconst (v := nI 0) hc d_Mo_isUpTo_2 rfl ?_
  refine fm_callV (av := [.int (nI gi), .int (nI 0)]) (rest := []) (ob := 586) (ci := 11) (r0 := ("AgentNetModel", F_Mo, 51)) (y := y_Mo_isInt) (bytes := b_Mo_isInt) hc fm_T0_good (fm_EX_st b x) hex q_1093 q_13 q_1090 q_1092 qs_Mo_isInt pd_Mo_isInt (by decide) (by omega) (by decide) (by decide) rfl rfl (hi) ⟨rfl, rfl, Nat.le_of_ble_eq_true rfl, Nat.le_of_ble_eq_true rfl⟩ ⟨Nat.le_of_ble_eq_true rfl, Nat.le_of_ble_eq_true rfl⟩ d_Mo_isUpTo_3 (Nat.le_of_ble_eq_true rfl) (fun r n2 M2 hp => ?_)
  obtain ⟨rfl, hq1, hq2⟩ := hp
  replace hq1 := hq1.symm
  replace hq2 := hq2.symm
  subst hq1 hq2
  refine fm_cnt (z' := (0, 0)) rfl (fm_st (st' := [.int (nI 0)]) rfl ?_)
  refine fm_if_eq (tgt := 36) hc d_Mo_isUpTo_6 rfl (fun _ => ?_) (fun g => absurd (by decide) g)
  refine fm_iconst (v := nI 0) hc d_Mo_isUpTo_36 rfl ?_
  exact fm_zret (ty := .boolean) hc hr (by first | rfl | decide) d_Mo_isUpTo_37 (Nat.le_refl _) (Nat.le_refl _) ⟨rfl, rfl, rfl⟩
theorem rc_upto_neg {l : Launch} {b : Nat} {x : Nat → Nat} {D : va_G} {dA : Nat → ClassId} {gi d mx : Nat}  {u : Int32} {n : Nat} {M : fm_M} (hn : 629 ≤ n) (hR : fm_RP M) (hg : gi < 98) (hd : M.1 612 gi = nI d) (hd6 : d ≤ 6) (hd1 : 1 ≤ d) (hm : mx < 100) (hv : M.2.1 613 (6 * gi + d - 1 - 0) = u.toInt64) (hi : Met l y_Mo_isInt (Cond.code y_Mo_isInt b_Mo_isInt 3 (some .boolean) :: fm_T0) ({ frames := 1, cells := 0, slots := 0, locals := 25 }) (fm_Pc fm_lay fm_nf fm_fk fm_cl b x D dA (fm_tys dA) (fm_EX b x) false [.ref 586, .int (nI gi), .int (nI 0)] n M) (fm_Qc fm_lay fm_nf fm_fk fm_cl b x D dA (fun r n' M' => r = some (.int (nI 1)) ∧ n' = n ∧ M' = M)) 0 0 (fm_A b)) (h1 : u < 0) : Met l y_Mo_isUpTo (Cond.code y_Mo_isUpTo b_Mo_isUpTo 3 (some .boolean) :: fm_T0) ({ frames := 2, cells := 0, slots := 0, locals := 50 }) (fm_Pc fm_lay fm_nf fm_fk fm_cl b x D dA (fm_tys dA) (fm_EX b x) false [.ref 586, .int (nI gi), .int (nI mx)] n M) (fm_Qc fm_lay fm_nf fm_fk fm_cl b x D dA (fun r n' M' => r = some (.int (nI 0)) ∧ n' = n ∧ M' = M)) 0 0 (fm_A b) := by
  refine fm_enter (by decide) (Nat.le_of_ble_eq_true rfl) ?_
  intro p e s m args below meth c9 hc hr hnm hex htg
  refine fm_aload_n hc d_Mo_isUpTo_0 rfl rfl ?_
  refine fm_iload_n hc d_Mo_isUpTo_1 rfl rfl ?_
  refine fm_iconst (v := nI 0) hc d_Mo_isUpTo_2 rfl ?_
  refine fm_callV (av := [.int (nI gi), .int (nI 0)]) (rest := []) (ob := 586) (ci := 11) (r0 := ("AgentNetModel", F_Mo, 51)) (y := y_Mo_isInt) (bytes := b_Mo_isInt) hc fm_T0_good (fm_EX_st b x) hex q_1093 q_13 q_1090 q_1092 qs_Mo_isInt pd_Mo_isInt (by decide) (by omega) (by decide) (by decide) rfl rfl (hi) ⟨rfl, rfl, Nat.le_of_ble_eq_true rfl, Nat.le_of_ble_eq_true rfl⟩ ⟨Nat.le_of_ble_eq_true rfl, Nat.le_of_ble_eq_true rfl⟩ d_Mo_isUpTo_3 (Nat.le_of_ble_eq_true rfl) (fun r n2 M2 hp => ?_)
  obtain ⟨rfl, hq1, hq2⟩ := hp
  replace hq1 := hq1.symm
  replace hq2 := hq2.symm
  subst hq1 hq2
  refine fm_cnt (z' := (0, 0)) rfl (fm_st (st' := [.int (nI 1)]) rfl ?_)
  refine fm_if_eq (tgt := 36) hc d_Mo_isUpTo_6 rfl (fun g => absurd g (by decide)) (fun _ => ?_)
  refine fm_aload_n hc d_Mo_isUpTo_9 rfl rfl ?_
  refine fm_iload_n hc d_Mo_isUpTo_10 rfl rfl ?_
  refine fm_iconst (v := nI 0) hc d_Mo_isUpTo_11 rfl ?_
  refine fm_callV (av := [.int (nI gi), .int (nI 0)]) (rest := []) (ob := 586) (ci := 11) (r0 := ("AgentNetModel", F_Mo, 51)) (y := y_Mo_top) (bytes := b_Mo_top) hc fm_T0_good (fm_EX_st b x) hex q_1097 q_13 q_1094 q_1096 qs_Mo_top pd_Mo_top (by decide) (by omega) (by decide) (by decide) rfl rfl (rc_top (j := 0) hn hR hg hd hd6 (by omega)) ⟨rfl, rfl, Nat.le_of_ble_eq_true rfl, Nat.le_of_ble_eq_true rfl⟩ ⟨Nat.le_of_ble_eq_true rfl, Nat.le_of_ble_eq_true rfl⟩ d_Mo_isUpTo_12 (Nat.le_of_ble_eq_true rfl) (fun r n2 M2 hp => ?_)
  obtain ⟨rfl, hq1, hq2⟩ := hp
  replace hq1 := hq1.symm
  replace hq2 := hq2.symm
  subst hq1 hq2
  refine fm_cnt (z' := (0, 0)) rfl (fm_st (st' := [.long (M.2.1 613 (6 * gi + d - 1 - 0))]) rfl ?_)
  refine fm_lconst (v := 0) hc d_Mo_isUpTo_15 rfl ?_
  refine fm_lcmp hc d_Mo_isUpTo_16 ?_
  refine fm_if_lt (tgt := 36) hc d_Mo_isUpTo_17 rfl (fun _ => ?_) (fun g => absurd ((lg_cmp_lt _ _).mpr (by rw [hv]; exact (l64_lt u 0).mpr h1)) g)
  refine fm_iconst (v := nI 0) hc d_Mo_isUpTo_36 rfl ?_
  exact fm_zret (ty := .boolean) hc hr (by first | rfl | decide) d_Mo_isUpTo_37 (Nat.le_refl _) (Nat.le_refl _) ⟨rfl, rfl, rfl⟩
theorem rc_upto_big {l : Launch} {b : Nat} {x : Nat → Nat} {D : va_G} {dA : Nat → ClassId} {gi d mx : Nat}  {u : Int32} {n : Nat} {M : fm_M} (hn : 629 ≤ n) (hR : fm_RP M) (hg : gi < 98) (hd : M.1 612 gi = nI d) (hd6 : d ≤ 6) (hd1 : 1 ≤ d) (hm : mx < 100) (hv : M.2.1 613 (6 * gi + d - 1 - 0) = u.toInt64) (hi : Met l y_Mo_isInt (Cond.code y_Mo_isInt b_Mo_isInt 3 (some .boolean) :: fm_T0) ({ frames := 1, cells := 0, slots := 0, locals := 25 }) (fm_Pc fm_lay fm_nf fm_fk fm_cl b x D dA (fm_tys dA) (fm_EX b x) false [.ref 586, .int (nI gi), .int (nI 0)] n M) (fm_Qc fm_lay fm_nf fm_fk fm_cl b x D dA (fun r n' M' => r = some (.int (nI 1)) ∧ n' = n ∧ M' = M)) 0 0 (fm_A b)) (h1 : ¬ u < 0) (h2 : nI mx < u) : Met l y_Mo_isUpTo (Cond.code y_Mo_isUpTo b_Mo_isUpTo 3 (some .boolean) :: fm_T0) ({ frames := 2, cells := 0, slots := 0, locals := 50 }) (fm_Pc fm_lay fm_nf fm_fk fm_cl b x D dA (fm_tys dA) (fm_EX b x) false [.ref 586, .int (nI gi), .int (nI mx)] n M) (fm_Qc fm_lay fm_nf fm_fk fm_cl b x D dA (fun r n' M' => r = some (.int (nI 0)) ∧ n' = n ∧ M' = M)) 0 0 (fm_A b) := by
  refine fm_enter (by decide) (Nat.le_of_ble_eq_true rfl) ?_
  intro p e s m args below meth c9 hc hr hnm hex htg
  refine fm_aload_n hc d_Mo_isUpTo_0 rfl rfl ?_
  refine fm_iload_n hc d_Mo_isUpTo_1 rfl rfl ?_
  refine fm_iconst (v := nI 0) hc d_Mo_isUpTo_2 rfl ?_
  refine fm_callV (av := [.int (nI gi), .int (nI 0)]) (rest := []) (ob := 586) (ci := 11) (r0 := ("AgentNetModel", F_Mo, 51)) (y := y_Mo_isInt) (bytes := b_Mo_isInt) hc fm_T0_good (fm_EX_st b x) hex q_1093 q_13 q_1090 q_1092 qs_Mo_isInt pd_Mo_isInt (by decide) (by omega) (by decide) (by decide) rfl rfl (hi) ⟨rfl, rfl, Nat.le_of_ble_eq_true rfl, Nat.le_of_ble_eq_true rfl⟩ ⟨Nat.le_of_ble_eq_true rfl, Nat.le_of_ble_eq_true rfl⟩ d_Mo_isUpTo_3 (Nat.le_of_ble_eq_true rfl) (fun r n2 M2 hp => ?_)
  obtain ⟨rfl, hq1, hq2⟩ := hp
  replace hq1 := hq1.symm
  replace hq2 := hq2.symm
  subst hq1 hq2
  refine fm_cnt (z' := (0, 0)) rfl (fm_st (st' := [.int (nI 1)]) rfl ?_)
  refine fm_if_eq (tgt := 36) hc d_Mo_isUpTo_6 rfl (fun g => absurd g (by decide)) (fun _ => ?_)
  refine fm_aload_n hc d_Mo_isUpTo_9 rfl rfl ?_
  refine fm_iload_n hc d_Mo_isUpTo_10 rfl rfl ?_
  refine fm_iconst (v := nI 0) hc d_Mo_isUpTo_11 rfl ?_
  refine fm_callV (av := [.int (nI gi), .int (nI 0)]) (rest := []) (ob := 586) (ci := 11) (r0 := ("AgentNetModel", F_Mo, 51)) (y := y_Mo_top) (bytes := b_Mo_top) hc fm_T0_good (fm_EX_st b x) hex q_1097 q_13 q_1094 q_1096 qs_Mo_top pd_Mo_top (by decide) (by omega) (by decide) (by decide) rfl rfl (rc_top (j := 0) hn hR hg hd hd6 (by omega)) ⟨rfl, rfl, Nat.le_of_ble_eq_true rfl, Nat.le_of_ble_eq_true rfl⟩ ⟨Nat.le_of_ble_eq_true rfl, Nat.le_of_ble_eq_true rfl⟩ d_Mo_isUpTo_12 (Nat.le_of_ble_eq_true rfl) (fun r n2 M2 hp => ?_)
  obtain ⟨rfl, hq1, hq2⟩ := hp
  replace hq1 := hq1.symm
  replace hq2 := hq2.symm
  subst hq1 hq2
  refine fm_cnt (z' := (0, 0)) rfl (fm_st (st' := [.long (M.2.1 613 (6 * gi + d - 1 - 0))]) rfl ?_)
  refine fm_lconst (v := 0) hc d_Mo_isUpTo_15 rfl ?_
  refine fm_lcmp hc d_Mo_isUpTo_16 ?_
  refine fm_if_lt (tgt := 36) hc d_Mo_isUpTo_17 rfl (fun g => absurd g (fun q => h1 ((l64_lt u 0).mp (by have := (lg_cmp_lt _ _).mp q; rwa [hv] at this)))) (fun _ => ?_)
  refine fm_aload_n hc d_Mo_isUpTo_20 rfl rfl ?_
  refine fm_iload_n hc d_Mo_isUpTo_21 rfl rfl ?_
  refine fm_iconst (v := nI 0) hc d_Mo_isUpTo_22 rfl ?_
  refine fm_callV (av := [.int (nI gi), .int (nI 0)]) (rest := []) (ob := 586) (ci := 11) (r0 := ("AgentNetModel", F_Mo, 51)) (y := y_Mo_top) (bytes := b_Mo_top) hc fm_T0_good (fm_EX_st b x) hex q_1097 q_13 q_1094 q_1096 qs_Mo_top pd_Mo_top (by decide) (by omega) (by decide) (by decide) rfl rfl (rc_top (j := 0) hn hR hg hd hd6 (by omega)) ⟨rfl, rfl, Nat.le_of_ble_eq_true rfl, Nat.le_of_ble_eq_true rfl⟩ ⟨Nat.le_of_ble_eq_true rfl, Nat.le_of_ble_eq_true rfl⟩ d_Mo_isUpTo_23 (Nat.le_of_ble_eq_true rfl) (fun r n2 M2 hp => ?_)
  obtain ⟨rfl, hq1, hq2⟩ := hp
  replace hq1 := hq1.symm
  replace hq2 := hq2.symm
  subst hq1 hq2
  refine fm_cnt (z' := (0, 0)) rfl (fm_st (st' := [.long (M.2.1 613 (6 * gi + d - 1 - 0))]) rfl ?_)
  refine fm_iload_n hc d_Mo_isUpTo_26 rfl rfl ?_
  refine fm_i2l hc d_Mo_isUpTo_27 ?_
  refine fm_lcmp hc d_Mo_isUpTo_28 ?_
  refine fm_if_gt (tgt := 36) hc d_Mo_isUpTo_29 rfl (fun _ => ?_) (fun g => absurd ((lg_cmp_gt _ _).mpr (by rw [hv]; exact (l64_lt (nI mx) u).mpr h2)) g)
  refine fm_iconst (v := nI 0) hc d_Mo_isUpTo_36 rfl ?_
  exact fm_zret (ty := .boolean) hc hr (by first | rfl | decide) d_Mo_isUpTo_37 (Nat.le_refl _) (Nat.le_refl _) ⟨rfl, rfl, rfl⟩
theorem rc_upto_ok {l : Launch} {b : Nat} {x : Nat → Nat} {D : va_G} {dA : Nat → ClassId} {gi d mx : Nat}  {u : Int32} {n : Nat} {M : fm_M} (hn : 629 ≤ n) (hR : fm_RP M) (hg : gi < 98) (hd : M.1 612 gi = nI d) (hd6 : d ≤ 6) (hd1 : 1 ≤ d) (hm : mx < 100) (hv : M.2.1 613 (6 * gi + d - 1 - 0) = u.toInt64) (hi : Met l y_Mo_isInt (Cond.code y_Mo_isInt b_Mo_isInt 3 (some .boolean) :: fm_T0) ({ frames := 1, cells := 0, slots := 0, locals := 25 }) (fm_Pc fm_lay fm_nf fm_fk fm_cl b x D dA (fm_tys dA) (fm_EX b x) false [.ref 586, .int (nI gi), .int (nI 0)] n M) (fm_Qc fm_lay fm_nf fm_fk fm_cl b x D dA (fun r n' M' => r = some (.int (nI 1)) ∧ n' = n ∧ M' = M)) 0 0 (fm_A b)) (h1 : ¬ u < 0) (h2 : ¬ nI mx < u) : Met l y_Mo_isUpTo (Cond.code y_Mo_isUpTo b_Mo_isUpTo 3 (some .boolean) :: fm_T0) ({ frames := 2, cells := 0, slots := 0, locals := 50 }) (fm_Pc fm_lay fm_nf fm_fk fm_cl b x D dA (fm_tys dA) (fm_EX b x) false [.ref 586, .int (nI gi), .int (nI mx)] n M) (fm_Qc fm_lay fm_nf fm_fk fm_cl b x D dA (fun r n' M' => r = some (.int (nI 1)) ∧ n' = n ∧ M' = M)) 0 0 (fm_A b) := by
  refine fm_enter (by decide) (Nat.le_of_ble_eq_true rfl) ?_
  intro p e s m args below meth c9 hc hr hnm hex htg
  refine fm_aload_n hc d_Mo_isUpTo_0 rfl rfl ?_
  refine fm_iload_n hc d_Mo_isUpTo_1 rfl rfl ?_
  refine fm_iconst (v := nI 0) hc d_Mo_isUpTo_2 rfl ?_
  refine fm_callV (av := [.int (nI gi), .int (nI 0)]) (rest := []) (ob := 586) (ci := 11) (r0 := ("AgentNetModel", F_Mo, 51)) (y := y_Mo_isInt) (bytes := b_Mo_isInt) hc fm_T0_good (fm_EX_st b x) hex q_1093 q_13 q_1090 q_1092 qs_Mo_isInt pd_Mo_isInt (by decide) (by omega) (by decide) (by decide) rfl rfl (hi) ⟨rfl, rfl, Nat.le_of_ble_eq_true rfl, Nat.le_of_ble_eq_true rfl⟩ ⟨Nat.le_of_ble_eq_true rfl, Nat.le_of_ble_eq_true rfl⟩ d_Mo_isUpTo_3 (Nat.le_of_ble_eq_true rfl) (fun r n2 M2 hp => ?_)
  obtain ⟨rfl, hq1, hq2⟩ := hp
  replace hq1 := hq1.symm
  replace hq2 := hq2.symm
  subst hq1 hq2
  refine fm_cnt (z' := (0, 0)) rfl (fm_st (st' := [.int (nI 1)]) rfl ?_)
  refine fm_if_eq (tgt := 36) hc d_Mo_isUpTo_6 rfl (fun g => absurd g (by decide)) (fun _ => ?_)
  refine fm_aload_n hc d_Mo_isUpTo_9 rfl rfl ?_
  refine fm_iload_n hc d_Mo_isUpTo_10 rfl rfl ?_
  refine fm_iconst (v := nI 0) hc d_Mo_isUpTo_11 rfl ?_
  refine fm_callV (av := [.int (nI gi), .int (nI 0)]) (rest := []) (ob := 586) (ci := 11) (r0 := ("AgentNetModel", F_Mo, 51)) (y := y_Mo_top) (bytes := b_Mo_top) hc fm_T0_good (fm_EX_st b x) hex q_1097 q_13 q_1094 q_1096 qs_Mo_top pd_Mo_top (by decide) (by omega) (by decide) (by decide) rfl rfl (rc_top (j := 0) hn hR hg hd hd6 (by omega)) ⟨rfl, rfl, Nat.le_of_ble_eq_true rfl, Nat.le_of_ble_eq_true rfl⟩ ⟨Nat.le_of_ble_eq_true rfl, Nat.le_of_ble_eq_true rfl⟩ d_Mo_isUpTo_12 (Nat.le_of_ble_eq_true rfl) (fun r n2 M2 hp => ?_)
  obtain ⟨rfl, hq1, hq2⟩ := hp
  replace hq1 := hq1.symm
  replace hq2 := hq2.symm
  subst hq1 hq2
  refine fm_cnt (z' := (0, 0)) rfl (fm_st (st' := [.long (M.2.1 613 (6 * gi + d - 1 - 0))]) rfl ?_)
  refine fm_lconst (v := 0) hc d_Mo_isUpTo_15 rfl ?_
  refine fm_lcmp hc d_Mo_isUpTo_16 ?_
  refine fm_if_lt (tgt := 36) hc d_Mo_isUpTo_17 rfl (fun g => absurd g (fun q => h1 ((l64_lt u 0).mp (by have := (lg_cmp_lt _ _).mp q; rwa [hv] at this)))) (fun _ => ?_)
  refine fm_aload_n hc d_Mo_isUpTo_20 rfl rfl ?_
  refine fm_iload_n hc d_Mo_isUpTo_21 rfl rfl ?_
  refine fm_iconst (v := nI 0) hc d_Mo_isUpTo_22 rfl ?_
  refine fm_callV (av := [.int (nI gi), .int (nI 0)]) (rest := []) (ob := 586) (ci := 11) (r0 := ("AgentNetModel", F_Mo, 51)) (y := y_Mo_top) (bytes := b_Mo_top) hc fm_T0_good (fm_EX_st b x) hex q_1097 q_13 q_1094 q_1096 qs_Mo_top pd_Mo_top (by decide) (by omega) (by decide) (by decide) rfl rfl (rc_top (j := 0) hn hR hg hd hd6 (by omega)) ⟨rfl, rfl, Nat.le_of_ble_eq_true rfl, Nat.le_of_ble_eq_true rfl⟩ ⟨Nat.le_of_ble_eq_true rfl, Nat.le_of_ble_eq_true rfl⟩ d_Mo_isUpTo_23 (Nat.le_of_ble_eq_true rfl) (fun r n2 M2 hp => ?_)
  obtain ⟨rfl, hq1, hq2⟩ := hp
  replace hq1 := hq1.symm
  replace hq2 := hq2.symm
  subst hq1 hq2
  refine fm_cnt (z' := (0, 0)) rfl (fm_st (st' := [.long (M.2.1 613 (6 * gi + d - 1 - 0))]) rfl ?_)
  refine fm_iload_n hc d_Mo_isUpTo_26 rfl rfl ?_
  refine fm_i2l hc d_Mo_isUpTo_27 ?_
  refine fm_lcmp hc d_Mo_isUpTo_28 ?_
  refine fm_if_gt (tgt := 36) hc d_Mo_isUpTo_29 rfl (fun g => absurd g (fun q => h2 ((l64_lt (nI mx) u).mp (by have := (lg_cmp_gt _ _).mp q; rwa [hv] at this)))) (fun _ => ?_)
  refine fm_iconst (v := nI 1) hc d_Mo_isUpTo_32 rfl ?_
  refine fm_goto (tgt := 37) hc d_Mo_isUpTo_33 rfl ?_
  exact fm_zret (ty := .boolean) hc hr (by first | rfl | decide) d_Mo_isUpTo_37 (Nat.le_refl _) (Nat.le_refl _) ⟨rfl, rfl, rfl⟩
theorem rc_wide_1 {l : Launch} {b : Nat} {x : Nat → Nat} {D : va_G} {dA : Nat → ClassId}  {n : Nat} {M : fm_M}  : Met l y_Mo_isWide (Cond.code y_Mo_isWide b_Mo_isWide 1 (some .boolean) :: fm_T0) ({ frames := 0, cells := 0, slots := 0, locals := 0 }) (fm_Pc fm_lay fm_nf fm_fk fm_cl b x D dA (fm_tys dA) (fm_EX b x) false [.int (nI 1)] n M) (fm_Qc fm_lay fm_nf fm_fk fm_cl b x D dA (fun r n' M' => r = some (.int (nI 1)) ∧ n' = n ∧ M' = M)) 0 0 (fm_A b) := by
  refine fm_enter (by decide) (Nat.le_of_ble_eq_true rfl) ?_
  intro p e s m args below meth c9 hc hr hnm hex htg
  refine fm_iload_n hc d_Mo_isWide_0 rfl rfl ?_
  refine fm_iconst (v := nI 1) hc d_Mo_isWide_1 rfl ?_
  refine fm_icmp_eq (tgt := 28) hc d_Mo_isWide_2 rfl (fun _ => ?_) (fun g => absurd (by decide) g)
  refine fm_iconst (v := nI 1) hc d_Mo_isWide_28 rfl ?_
  refine fm_goto (tgt := 33) hc d_Mo_isWide_29 rfl ?_
  exact fm_zret (ty := .boolean) hc hr (by first | rfl | decide) d_Mo_isWide_33 (Nat.le_refl _) (Nat.le_refl _) ⟨rfl, rfl, rfl⟩
theorem rc_wide_5 {l : Launch} {b : Nat} {x : Nat → Nat} {D : va_G} {dA : Nat → ClassId}  {n : Nat} {M : fm_M}  : Met l y_Mo_isWide (Cond.code y_Mo_isWide b_Mo_isWide 1 (some .boolean) :: fm_T0) ({ frames := 0, cells := 0, slots := 0, locals := 0 }) (fm_Pc fm_lay fm_nf fm_fk fm_cl b x D dA (fm_tys dA) (fm_EX b x) false [.int (nI 5)] n M) (fm_Qc fm_lay fm_nf fm_fk fm_cl b x D dA (fun r n' M' => r = some (.int (nI 1)) ∧ n' = n ∧ M' = M)) 0 0 (fm_A b) := by
  refine fm_enter (by decide) (Nat.le_of_ble_eq_true rfl) ?_
  intro p e s m args below meth c9 hc hr hnm hex htg
  refine fm_iload_n hc d_Mo_isWide_0 rfl rfl ?_
  refine fm_iconst (v := nI 1) hc d_Mo_isWide_1 rfl ?_
  refine fm_icmp_eq (tgt := 28) hc d_Mo_isWide_2 rfl (fun g => absurd g (by decide)) (fun _ => ?_)
  refine fm_iload_n hc d_Mo_isWide_5 rfl rfl ?_
  refine fm_iconst (v := nI 5) hc d_Mo_isWide_6 rfl ?_
  refine fm_icmp_eq (tgt := 28) hc d_Mo_isWide_7 rfl (fun _ => ?_) (fun g => absurd (by decide) g)
  refine fm_iconst (v := nI 1) hc d_Mo_isWide_28 rfl ?_
  refine fm_goto (tgt := 33) hc d_Mo_isWide_29 rfl ?_
  exact fm_zret (ty := .boolean) hc hr (by first | rfl | decide) d_Mo_isWide_33 (Nat.le_refl _) (Nat.le_refl _) ⟨rfl, rfl, rfl⟩
theorem rc_wide_7 {l : Launch} {b : Nat} {x : Nat → Nat} {D : va_G} {dA : Nat → ClassId}  {n : Nat} {M : fm_M}  : Met l y_Mo_isWide (Cond.code y_Mo_isWide b_Mo_isWide 1 (some .boolean) :: fm_T0) ({ frames := 0, cells := 0, slots := 0, locals := 0 }) (fm_Pc fm_lay fm_nf fm_fk fm_cl b x D dA (fm_tys dA) (fm_EX b x) false [.int (nI 7)] n M) (fm_Qc fm_lay fm_nf fm_fk fm_cl b x D dA (fun r n' M' => r = some (.int (nI 1)) ∧ n' = n ∧ M' = M)) 0 0 (fm_A b) := by
  refine fm_enter (by decide) (Nat.le_of_ble_eq_true rfl) ?_
  intro p e s m args below meth c9 hc hr hnm hex htg
  refine fm_iload_n hc d_Mo_isWide_0 rfl rfl ?_
  refine fm_iconst (v := nI 1) hc d_Mo_isWide_1 rfl ?_
  refine fm_icmp_eq (tgt := 28) hc d_Mo_isWide_2 rfl (fun g => absurd g (by decide)) (fun _ => ?_)
  refine fm_iload_n hc d_Mo_isWide_5 rfl rfl ?_
  refine fm_iconst (v := nI 5) hc d_Mo_isWide_6 rfl ?_
  refine fm_icmp_eq (tgt := 28) hc d_Mo_isWide_7 rfl (fun g => absurd g (by decide)) (fun _ => ?_)
  refine fm_iload_n hc d_Mo_isWide_10 rfl rfl ?_
  refine fm_bipush (v := nI 7) hc d_Mo_isWide_11 rfl ?_
  refine fm_icmp_eq (tgt := 28) hc d_Mo_isWide_13 rfl (fun _ => ?_) (fun g => absurd (by decide) g)
  refine fm_iconst (v := nI 1) hc d_Mo_isWide_28 rfl ?_
  refine fm_goto (tgt := 33) hc d_Mo_isWide_29 rfl ?_
  exact fm_zret (ty := .boolean) hc hr (by first | rfl | decide) d_Mo_isWide_33 (Nat.le_refl _) (Nat.le_refl _) ⟨rfl, rfl, rfl⟩
theorem rc_wide_10 {l : Launch} {b : Nat} {x : Nat → Nat} {D : va_G} {dA : Nat → ClassId}  {n : Nat} {M : fm_M}  : Met l y_Mo_isWide (Cond.code y_Mo_isWide b_Mo_isWide 1 (some .boolean) :: fm_T0) ({ frames := 0, cells := 0, slots := 0, locals := 0 }) (fm_Pc fm_lay fm_nf fm_fk fm_cl b x D dA (fm_tys dA) (fm_EX b x) false [.int (nI 10)] n M) (fm_Qc fm_lay fm_nf fm_fk fm_cl b x D dA (fun r n' M' => r = some (.int (nI 1)) ∧ n' = n ∧ M' = M)) 0 0 (fm_A b) := by
  refine fm_enter (by decide) (Nat.le_of_ble_eq_true rfl) ?_
  intro p e s m args below meth c9 hc hr hnm hex htg
  refine fm_iload_n hc d_Mo_isWide_0 rfl rfl ?_
  refine fm_iconst (v := nI 1) hc d_Mo_isWide_1 rfl ?_
  refine fm_icmp_eq (tgt := 28) hc d_Mo_isWide_2 rfl (fun g => absurd g (by decide)) (fun _ => ?_)
  refine fm_iload_n hc d_Mo_isWide_5 rfl rfl ?_
  refine fm_iconst (v := nI 5) hc d_Mo_isWide_6 rfl ?_
  refine fm_icmp_eq (tgt := 28) hc d_Mo_isWide_7 rfl (fun g => absurd g (by decide)) (fun _ => ?_)
  refine fm_iload_n hc d_Mo_isWide_10 rfl rfl ?_
  refine fm_bipush (v := nI 7) hc d_Mo_isWide_11 rfl ?_
  refine fm_icmp_eq (tgt := 28) hc d_Mo_isWide_13 rfl (fun g => absurd g (by decide)) (fun _ => ?_)
  refine fm_iload_n hc d_Mo_isWide_16 rfl rfl ?_
  refine fm_bipush (v := nI 10) hc d_Mo_isWide_17 rfl ?_
  refine fm_icmp_eq (tgt := 28) hc d_Mo_isWide_19 rfl (fun _ => ?_) (fun g => absurd (by decide) g)
  refine fm_iconst (v := nI 1) hc d_Mo_isWide_28 rfl ?_
  refine fm_goto (tgt := 33) hc d_Mo_isWide_29 rfl ?_
  exact fm_zret (ty := .boolean) hc hr (by first | rfl | decide) d_Mo_isWide_33 (Nat.le_refl _) (Nat.le_refl _) ⟨rfl, rfl, rfl⟩
theorem rc_wide_11 {l : Launch} {b : Nat} {x : Nat → Nat} {D : va_G} {dA : Nat → ClassId}  {n : Nat} {M : fm_M}  : Met l y_Mo_isWide (Cond.code y_Mo_isWide b_Mo_isWide 1 (some .boolean) :: fm_T0) ({ frames := 0, cells := 0, slots := 0, locals := 0 }) (fm_Pc fm_lay fm_nf fm_fk fm_cl b x D dA (fm_tys dA) (fm_EX b x) false [.int (nI 11)] n M) (fm_Qc fm_lay fm_nf fm_fk fm_cl b x D dA (fun r n' M' => r = some (.int (nI 1)) ∧ n' = n ∧ M' = M)) 0 0 (fm_A b) := by
  refine fm_enter (by decide) (Nat.le_of_ble_eq_true rfl) ?_
  intro p e s m args below meth c9 hc hr hnm hex htg
  refine fm_iload_n hc d_Mo_isWide_0 rfl rfl ?_
  refine fm_iconst (v := nI 1) hc d_Mo_isWide_1 rfl ?_
  refine fm_icmp_eq (tgt := 28) hc d_Mo_isWide_2 rfl (fun g => absurd g (by decide)) (fun _ => ?_)
  refine fm_iload_n hc d_Mo_isWide_5 rfl rfl ?_
  refine fm_iconst (v := nI 5) hc d_Mo_isWide_6 rfl ?_
  refine fm_icmp_eq (tgt := 28) hc d_Mo_isWide_7 rfl (fun g => absurd g (by decide)) (fun _ => ?_)
  refine fm_iload_n hc d_Mo_isWide_10 rfl rfl ?_
  refine fm_bipush (v := nI 7) hc d_Mo_isWide_11 rfl ?_
  refine fm_icmp_eq (tgt := 28) hc d_Mo_isWide_13 rfl (fun g => absurd g (by decide)) (fun _ => ?_)
  refine fm_iload_n hc d_Mo_isWide_16 rfl rfl ?_
  refine fm_bipush (v := nI 10) hc d_Mo_isWide_17 rfl ?_
  refine fm_icmp_eq (tgt := 28) hc d_Mo_isWide_19 rfl (fun g => absurd g (by decide)) (fun _ => ?_)
  refine fm_iload_n hc d_Mo_isWide_22 rfl rfl ?_
  refine fm_bipush (v := nI 11) hc d_Mo_isWide_23 rfl ?_
  refine fm_icmp_ne (tgt := 32) hc d_Mo_isWide_25 rfl (fun g => absurd (by decide) g) (fun _ => ?_)
  refine fm_iconst (v := nI 1) hc d_Mo_isWide_28 rfl ?_
  refine fm_goto (tgt := 33) hc d_Mo_isWide_29 rfl ?_
  exact fm_zret (ty := .boolean) hc hr (by first | rfl | decide) d_Mo_isWide_33 (Nat.le_refl _) (Nat.le_refl _) ⟨rfl, rfl, rfl⟩
theorem rc_wide_no {l : Launch} {b : Nat} {x : Nat → Nat} {D : va_G} {dA : Nat → ClassId} {c : Nat} {n : Nat} {M : fm_M} (h : ¬ nI c = nI 1 ∧ ¬ nI c = nI 5 ∧ ¬ nI c = nI 7 ∧ ¬ nI c = nI 10 ∧ ¬ nI c = nI 11) : Met l y_Mo_isWide (Cond.code y_Mo_isWide b_Mo_isWide 1 (some .boolean) :: fm_T0) ({ frames := 0, cells := 0, slots := 0, locals := 0 }) (fm_Pc fm_lay fm_nf fm_fk fm_cl b x D dA (fm_tys dA) (fm_EX b x) false [.int (nI c)] n M) (fm_Qc fm_lay fm_nf fm_fk fm_cl b x D dA (fun r n' M' => r = some (.int (nI 0)) ∧ n' = n ∧ M' = M)) 0 0 (fm_A b) := by
  refine fm_enter (by decide) (Nat.le_of_ble_eq_true rfl) ?_
  intro p e s m args below meth c9 hc hr hnm hex htg
  refine fm_iload_n hc d_Mo_isWide_0 rfl rfl ?_
  refine fm_iconst (v := nI 1) hc d_Mo_isWide_1 rfl ?_
  refine fm_icmp_eq (tgt := 28) hc d_Mo_isWide_2 rfl (fun g => absurd g h.1) (fun _ => ?_)
  refine fm_iload_n hc d_Mo_isWide_5 rfl rfl ?_
  refine fm_iconst (v := nI 5) hc d_Mo_isWide_6 rfl ?_
  refine fm_icmp_eq (tgt := 28) hc d_Mo_isWide_7 rfl (fun g => absurd g h.2.1) (fun _ => ?_)
  refine fm_iload_n hc d_Mo_isWide_10 rfl rfl ?_
  refine fm_bipush (v := nI 7) hc d_Mo_isWide_11 rfl ?_
  refine fm_icmp_eq (tgt := 28) hc d_Mo_isWide_13 rfl (fun g => absurd g h.2.2.1) (fun _ => ?_)
  refine fm_iload_n hc d_Mo_isWide_16 rfl rfl ?_
  refine fm_bipush (v := nI 10) hc d_Mo_isWide_17 rfl ?_
  refine fm_icmp_eq (tgt := 28) hc d_Mo_isWide_19 rfl (fun g => absurd g h.2.2.2.1) (fun _ => ?_)
  refine fm_iload_n hc d_Mo_isWide_22 rfl rfl ?_
  refine fm_bipush (v := nI 11) hc d_Mo_isWide_23 rfl ?_
  refine fm_icmp_ne (tgt := 32) hc d_Mo_isWide_25 rfl (fun _ => ?_) (fun g => absurd g h.2.2.2.2)
  refine fm_iconst (v := nI 0) hc d_Mo_isWide_32 rfl ?_
  exact fm_zret (ty := .boolean) hc hr (by first | rfl | decide) d_Mo_isWide_33 (Nat.le_refl _) (Nat.le_refl _) ⟨rfl, rfl, rfl⟩
theorem rc_wide2 {l : Launch} {b : Nat} {x : Nat → Nat} {D : va_G} {dA : Nat → ClassId} {c n : Nat} {M : fm_M} (h : ag_sz c = 2) : Met l y_Mo_isWide (Cond.code y_Mo_isWide b_Mo_isWide 1 (some .boolean) :: fm_T0) ({ frames := 0, cells := 0, slots := 0, locals := 0 }) (fm_Pc fm_lay fm_nf fm_fk fm_cl b x D dA (fm_tys dA) (fm_EX b x) false [.int (nI c)] n M) (fm_Qc fm_lay fm_nf fm_fk fm_cl b x D dA (fun r n' M' => r = some (.int (nI 1)) ∧ n' = n ∧ M' = M)) 0 0 (fm_A b) := by
  have h2 : c = 1 ∨ c = 5 ∨ c = 7 ∨ c = 10 ∨ c = 11 := by
    unfold ag_sz at h
    by_cases g : c = 1 ∨ c = 5 ∨ c = 7 ∨ c = 10 ∨ c = 11
    · exact g
    · rw [if_neg g] at h
      cases h
  rcases h2 with rfl | rfl | rfl | rfl | rfl
  · exact rc_wide_1
  · exact rc_wide_5
  · exact rc_wide_7
  · exact rc_wide_10
  · exact rc_wide_11
theorem rc_wide1 {l : Launch} {b : Nat} {x : Nat → Nat} {D : va_G} {dA : Nat → ClassId} {c n : Nat} {M : fm_M} (hc : c < 256) (h : ¬ ag_sz c = 2) : Met l y_Mo_isWide (Cond.code y_Mo_isWide b_Mo_isWide 1 (some .boolean) :: fm_T0) ({ frames := 0, cells := 0, slots := 0, locals := 0 }) (fm_Pc fm_lay fm_nf fm_fk fm_cl b x D dA (fm_tys dA) (fm_EX b x) false [.int (nI c)] n M) (fm_Qc fm_lay fm_nf fm_fk fm_cl b x D dA (fun r n' M' => r = some (.int (nI 0)) ∧ n' = n ∧ M' = M)) 0 0 (fm_A b) := by
  have h2 : ¬ (c = 1 ∨ c = 5 ∨ c = 7 ∨ c = 10 ∨ c = 11) := fun g => h (by unfold ag_sz; rw [if_pos g])
  have ne : ∀ q, q < 100 → ¬ c = q → ¬ nI c = nI q := fun q hq hne g => by
    have e := congrArg Int32.toInt g
    rw [nI_int (by omega), nI_int (by omega)] at e
    omega
  exact rc_wide_no ⟨ne 1 (by omega) (by omega), ne 5 (by omega) (by omega), ne 7 (by omega) (by omega), ne 10 (by omega) (by omega), ne 11 (by omega) (by omega)⟩
