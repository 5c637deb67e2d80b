/-! REFUSALS, second part -/
theorem r_crash_idle {l : Launch} {b : Nat} {x : Nat → Nat} {D : va_G} {dA : Nat → ClassId} {j : Nat} {n : Nat} {M : fm_M} (hn : 629 ≤ n) (hR : fm_RP M) (hj : j < 4) (hu : M.1 595 j = 0) : Met l y_Mo_crash (Cond.code y_Mo_crash b_Mo_crash 2 (some .boolean) :: fm_T0) ({ frames := 1, cells := 0, slots := 0, locals := 22 }) (fm_Pc fm_lay fm_nf fm_fk fm_cl b x D dA (fm_tys dA) (fm_EX b x) false [.ref 586, .int (nI j)] n M) (fm_Qc fm_lay fm_nf fm_fk fm_cl b x D dA (fun r n' M' => r = some (.int (nI 0)) ∧ n' = n ∧ M' = fm_put1 M 586 0 (nI 0))) 0 0 (fm_A b) := by
  refine fm_enter (by decide) (Nat.le_of_ble_eq_true rfl) ?_
  intro p e s m args below meth c hc hr hnm hex htg
  refine fm_aload_n hc d_Mo_crash_0 rfl rfl ?_
  refine fm_iload_n hc d_Mo_crash_1 rfl rfl ?_
  refine fm_iconst (v := nI 0) hc d_Mo_crash_2 rfl ?_
  refine fm_iconst (v := nI 3) hc d_Mo_crash_3 rfl ?_
  refine fm_callS (av := [.int (nI j), .int (nI 0), .int (nI 3)]) (rest := [.ref 586]) (y := y_Mo_within) (bytes := b_Mo_within) hc fm_T0_good (fm_EX_st b x) hex q_1049 q_13 q_1047 q_1048 pd_Mo_within (c_Mo_within_ok (wi_of4 (in4_of hj))) ⟨rfl, rfl, Nat.le_of_ble_eq_true rfl, Nat.le_of_ble_eq_true rfl⟩ ⟨Nat.le_of_ble_eq_true rfl, Nat.le_of_ble_eq_true rfl⟩ d_Mo_crash_4 (Nat.le_of_ble_eq_true rfl) (fun r n2 M2 hp => ?_)
  obtain ⟨rfl, rfl, rfl⟩ := hp
  refine fm_cnt (z' := (0, 0)) rfl (fm_st (st' := [.int (nI 1), .ref 586]) rfl ?_)
  refine fm_if_eq (tgt := 14) hc d_Mo_crash_7 rfl (fun g => absurd g (by decide)) (fun _ => ?_)
  refine fm_iconst (v := nI 0) hc d_Mo_crash_10 rfl ?_
  refine fm_goto (tgt := 15) hc d_Mo_crash_11 rfl ?_
  refine fm_putI (k := 0) (v := nI 0) hc K_Mo d_Mo_crash_15 q_885 rfl (by decide) (by omega) (by decide) (by decide) (by decide) rfl rfl rfl rfl ?_
  refine fm_aload_n hc d_Mo_crash_18 rfl rfl ?_
  refine fm_getI (k := 0) hc K_Mo d_Mo_crash_19 q_885 rfl (by decide) (by omega) (by decide) (by decide) (by decide) rfl ?_
  refine fm_top (congrArg Value.int (p1_same _ 586 0 (nI 0))) ?_
  refine fm_if_gt (tgt := 34) hc d_Mo_crash_22 rfl (fun g => absurd g (by decide)) (fun _ => ?_)
  refine fm_aload_n hc d_Mo_crash_25 rfl rfl ?_
  refine fm_getR (k := 10) (q := 595) hc K_Mo d_Mo_crash_26 q_895 rfl (by decide) (by omega) (by decide) (by decide) (by decide) rfl (rp_up hR) ?_
  refine fm_iload_n hc d_Mo_crash_29 rfl rfl ?_
  refine fm_zald (j := j) (len := 4) hc 1 d_Mo_crash_30 (by decide) (by omega) (by decide) rfl (by omega) (by decide) ?_
  refine fm_if_ne (tgt := 36) hc d_Mo_crash_31 rfl (fun g => absurd hu g) (fun _ => ?_)
  refine fm_iconst (v := nI 0) hc d_Mo_crash_34 rfl ?_
  exact fm_zret (ty := .boolean) hc hr (by first | rfl | decide) d_Mo_crash_35 (Nat.le_refl _) (Nat.le_refl _) ⟨rfl, rfl, rfl⟩
theorem r_start_idle {l : Launch} {b : Nat} {x : Nat → Nat} {D : va_G} {dA : Nat → ClassId} {j : Nat} {n : Nat} {M : fm_M} (hn : 629 ≤ n) (hR : fm_RP M) (hj : j < 4) (hu : ¬ M.1 595 j = 0) : Met l y_Mo_start (Cond.code y_Mo_start b_Mo_start 2 (some .boolean) :: fm_T0) ({ frames := 1, cells := 0, slots := 0, locals := 22 }) (fm_Pc fm_lay fm_nf fm_fk fm_cl b x D dA (fm_tys dA) (fm_EX b x) false [.ref 586, .int (nI j)] n M) (fm_Qc fm_lay fm_nf fm_fk fm_cl b x D dA (fun r n' M' => r = some (.int (nI 0)) ∧ n' = n ∧ M' = fm_put1 M 586 0 (nI 0))) 0 0 (fm_A b) := by
  refine fm_enter (by decide) (Nat.le_of_ble_eq_true rfl) ?_
  intro p e s m args below meth c hc hr hnm hex htg
  refine fm_aload_n hc d_Mo_start_0 rfl rfl ?_
  refine fm_iload_n hc d_Mo_start_1 rfl rfl ?_
  refine fm_iconst (v := nI 0) hc d_Mo_start_2 rfl ?_
  refine fm_iconst (v := nI 3) hc d_Mo_start_3 rfl ?_
  refine fm_callS (av := [.int (nI j), .int (nI 0), .int (nI 3)]) (rest := [.ref 586]) (y := y_Mo_within) (bytes := b_Mo_within) hc fm_T0_good (fm_EX_st b x) hex q_1049 q_13 q_1047 q_1048 pd_Mo_within (c_Mo_within_ok (wi_of4 (in4_of hj))) ⟨rfl, rfl, Nat.le_of_ble_eq_true rfl, Nat.le_of_ble_eq_true rfl⟩ ⟨Nat.le_of_ble_eq_true rfl, Nat.le_of_ble_eq_true rfl⟩ d_Mo_start_4 (Nat.le_of_ble_eq_true rfl) (fun r n2 M2 hp => ?_)
  obtain ⟨rfl, rfl, rfl⟩ := hp
  refine fm_cnt (z' := (0, 0)) rfl (fm_st (st' := [.int (nI 1), .ref 586]) rfl ?_)
  refine fm_if_eq (tgt := 14) hc d_Mo_start_7 rfl (fun g => absurd g (by decide)) (fun _ => ?_)
  refine fm_iconst (v := nI 0) hc d_Mo_start_10 rfl ?_
  refine fm_goto (tgt := 15) hc d_Mo_start_11 rfl ?_
  refine fm_putI (k := 0) (v := nI 0) hc K_Mo d_Mo_start_15 q_885 rfl (by decide) (by omega) (by decide) (by decide) (by decide) rfl rfl rfl rfl ?_
  refine fm_aload_n hc d_Mo_start_18 rfl rfl ?_
  refine fm_getI (k := 0) hc K_Mo d_Mo_start_19 q_885 rfl (by decide) (by omega) (by decide) (by decide) (by decide) rfl ?_
  refine fm_top (congrArg Value.int (p1_same _ 586 0 (nI 0))) ?_
  refine fm_if_gt (tgt := 34) hc d_Mo_start_22 rfl (fun g => absurd g (by decide)) (fun _ => ?_)
  refine fm_aload_n hc d_Mo_start_25 rfl rfl ?_
  refine fm_getR (k := 10) (q := 595) hc K_Mo d_Mo_start_26 q_895 rfl (by decide) (by omega) (by decide) (by decide) (by decide) rfl (rp_up hR) ?_
  refine fm_iload_n hc d_Mo_start_29 rfl rfl ?_
  refine fm_zald (j := j) (len := 4) hc 1 d_Mo_start_30 (by decide) (by omega) (by decide) rfl (by omega) (by decide) ?_
  refine fm_if_eq (tgt := 36) hc d_Mo_start_31 rfl (fun g => absurd g hu) (fun _ => ?_)
  refine fm_iconst (v := nI 0) hc d_Mo_start_34 rfl ?_
  exact fm_zret (ty := .boolean) hc hr (by first | rfl | decide) d_Mo_start_35 (Nat.le_refl _) (Nat.le_refl _) ⟨rfl, rfl, rfl⟩
theorem r_step_bad {l : Launch} {b : Nat} {x : Nat → Nat} {D : va_G} {dA : Nat → ClassId} {v w : Int32} {n : Nat} {M : fm_M} (hn : 629 ≤ n) (hR : fm_RP M) (hv : ¬ fm_in 4 v) : Met l y_Mo_step (Cond.code y_Mo_step b_Mo_step 8 (some .int) :: fm_T0) ({ frames := 2, cells := 0, slots := 0, locals := 44 }) (fm_Pc fm_lay fm_nf fm_fk fm_cl b x D dA (fm_tys dA) (fm_EX b x) false [.ref 586, .int v, .int w] n M) (fm_Qc fm_lay fm_nf fm_fk fm_cl b x D dA (fun r n' M' => r = some (.int (nI 0)) ∧ n' = n ∧ M' = fm_put1 M 586 0 (nI 1))) 0 0 (fm_A b) := by
  refine fm_enter (by decide) (Nat.le_of_ble_eq_true rfl) ?_
  intro p e s m args below meth c hc hr hnm hex htg
  refine fm_aload_n hc d_Mo_step_0 rfl rfl ?_
  refine fm_aload_n hc d_Mo_step_1 rfl rfl ?_
  refine fm_iload_n hc d_Mo_step_2 rfl rfl ?_
  refine fm_iload_n hc d_Mo_step_3 rfl rfl ?_
  refine fm_iconst (v := nI 1) hc d_Mo_step_4 rfl ?_
  refine fm_bipush (v := nI 40) hc d_Mo_step_5 rfl ?_
  refine fm_callS (av := [.int w, .int (nI 1), .int (nI 40)]) (rest := [.int v, .ref 586, .ref 586]) (y := y_Mo_within) (bytes := b_Mo_within) hc fm_T0_good (fm_EX_st b x) hex q_1049 q_13 q_1047 q_1048 pd_Mo_within (c_Mo_within) ⟨rfl, rfl, Nat.le_of_ble_eq_true rfl, Nat.le_of_ble_eq_true rfl⟩ ⟨Nat.le_of_ble_eq_true rfl, Nat.le_of_ble_eq_true rfl⟩ d_Mo_step_7 (Nat.le_of_ble_eq_true rfl) (fun r n2 M2 hp => ?_)
  obtain ⟨rfl, rfl, rfl⟩ := hp
  refine fm_cnt (z' := (0, 0)) rfl (fm_st (st' := [.int (if w < nI 1 then nI 0 else if nI 40 < w then nI 0 else nI 1), .int v, .ref 586, .ref 586]) rfl ?_)
  refine fm_callV (av := [.int v, .int (if w < nI 1 then nI 0 else if nI 40 < w then nI 0 else nI 1)]) (rest := [.ref 586]) (ob := 586) (ci := 11) (r0 := ("AgentNetModel", F_Mo, 51)) (y := y_Mo_wrongAt) (bytes := b_Mo_wrongAt) hc fm_T0_good (fm_EX_st b x) hex q_1078 q_13 q_1075 q_1077 qs_Mo_wrongAt pd_Mo_wrongAt (by decide) (by omega) (by decide) (by decide) rfl rfl (c_wrongAt_bad hn hR hv) ⟨rfl, rfl, Nat.le_of_ble_eq_true rfl, Nat.le_of_ble_eq_true rfl⟩ ⟨Nat.le_of_ble_eq_true rfl, Nat.le_of_ble_eq_true rfl⟩ d_Mo_step_10 (Nat.le_of_ble_eq_true rfl) (fun r n2 M2 hp => ?_)
  obtain ⟨rfl, rfl, rfl⟩ := hp
  refine fm_cnt (z' := (0, 0)) rfl (fm_st (st' := [.int (nI 1), .ref 586]) rfl ?_)
  refine fm_putI (k := 0) (v := nI 1) hc K_Mo d_Mo_step_13 q_885 rfl (by decide) (by omega) (by decide) (by decide) (by decide) rfl rfl rfl rfl ?_
  refine fm_aload_n hc d_Mo_step_16 rfl rfl ?_
  refine fm_getI (k := 0) hc K_Mo d_Mo_step_17 q_885 rfl (by decide) (by omega) (by decide) (by decide) (by decide) rfl ?_
  refine fm_top (congrArg Value.int (p1_same _ 586 0 (nI 1))) ?_
  refine fm_if_le (tgt := 25) hc d_Mo_step_20 rfl (fun g => absurd g (by decide)) (fun _ => ?_)
  refine fm_iconst (v := nI 0) hc d_Mo_step_23 rfl ?_
  exact fm_iret hc hr d_Mo_step_24 (Nat.le_refl _) (Nat.le_refl _) ⟨rfl, rfl, rfl⟩
theorem r_step_unfit {l : Launch} {b : Nat} {x : Nat → Nat} {D : va_G} {dA : Nat → ClassId} {v w : Int32} {n : Nat} {M : fm_M} (hn : 629 ≤ n) (hR : fm_RP M) (hv : fm_in 4 v) (hw : ¬ fm_wi w (nI 1) (nI 40)) : Met l y_Mo_step (Cond.code y_Mo_step b_Mo_step 8 (some .int) :: fm_T0) ({ frames := 2, cells := 0, slots := 0, locals := 44 }) (fm_Pc fm_lay fm_nf fm_fk fm_cl b x D dA (fm_tys dA) (fm_EX b x) false [.ref 586, .int v, .int w] n M) (fm_Qc fm_lay fm_nf fm_fk fm_cl b x D dA (fun r n' M' => r = some (.int (nI 0)) ∧ n' = n ∧ M' = fm_put1 M 586 0 (nI 1))) 0 0 (fm_A b) := by
  refine fm_enter (by decide) (Nat.le_of_ble_eq_true rfl) ?_
  intro p e s m args below meth c hc hr hnm hex htg
  refine fm_aload_n hc d_Mo_step_0 rfl rfl ?_
  refine fm_aload_n hc d_Mo_step_1 rfl rfl ?_
  refine fm_iload_n hc d_Mo_step_2 rfl rfl ?_
  refine fm_iload_n hc d_Mo_step_3 rfl rfl ?_
  refine fm_iconst (v := nI 1) hc d_Mo_step_4 rfl ?_
  refine fm_bipush (v := nI 40) hc d_Mo_step_5 rfl ?_
  refine fm_callS (av := [.int w, .int (nI 1), .int (nI 40)]) (rest := [.int v, .ref 586, .ref 586]) (y := y_Mo_within) (bytes := b_Mo_within) hc fm_T0_good (fm_EX_st b x) hex q_1049 q_13 q_1047 q_1048 pd_Mo_within (c_Mo_within_no hw) ⟨rfl, rfl, Nat.le_of_ble_eq_true rfl, Nat.le_of_ble_eq_true rfl⟩ ⟨Nat.le_of_ble_eq_true rfl, Nat.le_of_ble_eq_true rfl⟩ d_Mo_step_7 (Nat.le_of_ble_eq_true rfl) (fun r n2 M2 hp => ?_)
  obtain ⟨rfl, rfl, rfl⟩ := hp
  refine fm_cnt (z' := (0, 0)) rfl (fm_st (st' := [.int (nI 0), .int v, .ref 586, .ref 586]) rfl ?_)
  refine fm_callV (av := [.int v, .int (nI 0)]) (rest := [.ref 586]) (ob := 586) (ci := 11) (r0 := ("AgentNetModel", F_Mo, 51)) (y := y_Mo_wrongAt) (bytes := b_Mo_wrongAt) hc fm_T0_good (fm_EX_st b x) hex q_1078 q_13 q_1075 q_1077 qs_Mo_wrongAt pd_Mo_wrongAt (by decide) (by omega) (by decide) (by decide) rfl rfl (c_wrongAt_unfit hn hR hv) ⟨rfl, rfl, Nat.le_of_ble_eq_true rfl, Nat.le_of_ble_eq_true rfl⟩ ⟨Nat.le_of_ble_eq_true rfl, Nat.le_of_ble_eq_true rfl⟩ d_Mo_step_10 (Nat.le_of_ble_eq_true rfl) (fun r n2 M2 hp => ?_)
  obtain ⟨rfl, rfl, rfl⟩ := hp
  refine fm_cnt (z' := (0, 0)) rfl (fm_st (st' := [.int (nI 1), .ref 586]) rfl ?_)
  refine fm_putI (k := 0) (v := nI 1) hc K_Mo d_Mo_step_13 q_885 rfl (by decide) (by omega) (by decide) (by decide) (by decide) rfl rfl rfl rfl ?_
  refine fm_aload_n hc d_Mo_step_16 rfl rfl ?_
  refine fm_getI (k := 0) hc K_Mo d_Mo_step_17 q_885 rfl (by decide) (by omega) (by decide) (by decide) (by decide) rfl ?_
  refine fm_top (congrArg Value.int (p1_same _ 586 0 (nI 1))) ?_
  refine fm_if_le (tgt := 25) hc d_Mo_step_20 rfl (fun g => absurd g (by decide)) (fun _ => ?_)
  refine fm_iconst (v := nI 0) hc d_Mo_step_23 rfl ?_
  exact fm_iret hc hr d_Mo_step_24 (Nat.le_refl _) (Nat.le_refl _) ⟨rfl, rfl, rfl⟩
theorem r_step_down {l : Launch} {b : Nat} {x : Nat → Nat} {D : va_G} {dA : Nat → ClassId} {j : Nat} {w : Int32} {n : Nat} {M : fm_M} (hn : 629 ≤ n) (hR : fm_RP M) (hj : j < 4) (hw : fm_wi w (nI 1) (nI 40)) (hu : M.1 595 j = 0) : Met l y_Mo_step (Cond.code y_Mo_step b_Mo_step 8 (some .int) :: fm_T0) ({ frames := 2, cells := 0, slots := 0, locals := 44 }) (fm_Pc fm_lay fm_nf fm_fk fm_cl b x D dA (fm_tys dA) (fm_EX b x) false [.ref 586, .int (nI j), .int w] n M) (fm_Qc fm_lay fm_nf fm_fk fm_cl b x D dA (fun r n' M' => r = some (.int (nI 0)) ∧ n' = n ∧ M' = fm_put1 M 586 0 (nI 2))) 0 0 (fm_A b) := by
  refine fm_enter (by decide) (Nat.le_of_ble_eq_true rfl) ?_
  intro p e s m args below meth c hc hr hnm hex htg
  refine fm_aload_n hc d_Mo_step_0 rfl rfl ?_
  refine fm_aload_n hc d_Mo_step_1 rfl rfl ?_
  refine fm_iload_n hc d_Mo_step_2 rfl rfl ?_
  refine fm_iload_n hc d_Mo_step_3 rfl rfl ?_
  refine fm_iconst (v := nI 1) hc d_Mo_step_4 rfl ?_
  refine fm_bipush (v := nI 40) hc d_Mo_step_5 rfl ?_
  refine fm_callS (av := [.int w, .int (nI 1), .int (nI 40)]) (rest := [.int (nI j), .ref 586, .ref 586]) (y := y_Mo_within) (bytes := b_Mo_within) hc fm_T0_good (fm_EX_st b x) hex q_1049 q_13 q_1047 q_1048 pd_Mo_within (c_Mo_within_ok hw) ⟨rfl, rfl, Nat.le_of_ble_eq_true rfl, Nat.le_of_ble_eq_true rfl⟩ ⟨Nat.le_of_ble_eq_true rfl, Nat.le_of_ble_eq_true rfl⟩ d_Mo_step_7 (Nat.le_of_ble_eq_true rfl) (fun r n2 M2 hp => ?_)
  obtain ⟨rfl, rfl, rfl⟩ := hp
  refine fm_cnt (z' := (0, 0)) rfl (fm_st (st' := [.int (nI 1), .int (nI j), .ref 586, .ref 586]) rfl ?_)
  refine fm_callV (av := [.int (nI j), .int (nI 1)]) (rest := [.ref 586]) (ob := 586) (ci := 11) (r0 := ("AgentNetModel", F_Mo, 51)) (y := y_Mo_wrongAt) (bytes := b_Mo_wrongAt) hc fm_T0_good (fm_EX_st b x) hex q_1078 q_13 q_1075 q_1077 qs_Mo_wrongAt pd_Mo_wrongAt (by decide) (by omega) (by decide) (by decide) rfl rfl (c_wrongAt_down hn hR hj hu) ⟨rfl, rfl, Nat.le_of_ble_eq_true rfl, Nat.le_of_ble_eq_true rfl⟩ ⟨Nat.le_of_ble_eq_true rfl, Nat.le_of_ble_eq_true rfl⟩ d_Mo_step_10 (Nat.le_of_ble_eq_true rfl) (fun r n2 M2 hp => ?_)
  obtain ⟨rfl, rfl, rfl⟩ := hp
  refine fm_cnt (z' := (0, 0)) rfl (fm_st (st' := [.int (nI 2), .ref 586]) rfl ?_)
  refine fm_putI (k := 0) (v := nI 2) hc K_Mo d_Mo_step_13 q_885 rfl (by decide) (by omega) (by decide) (by decide) (by decide) rfl rfl rfl rfl ?_
  refine fm_aload_n hc d_Mo_step_16 rfl rfl ?_
  refine fm_getI (k := 0) hc K_Mo d_Mo_step_17 q_885 rfl (by decide) (by omega) (by decide) (by decide) (by decide) rfl ?_
  refine fm_top (congrArg Value.int (p1_same _ 586 0 (nI 2))) ?_
  refine fm_if_le (tgt := 25) hc d_Mo_step_20 rfl (fun g => absurd g (by decide)) (fun _ => ?_)
  refine fm_iconst (v := nI 0) hc d_Mo_step_23 rfl ?_
  exact fm_iret hc hr d_Mo_step_24 (Nat.le_refl _) (Nat.le_refl _) ⟨rfl, rfl, rfl⟩
theorem r_write_bad {l : Launch} {b : Nat} {x : Nat → Nat} {D : va_G} {dA : Nat → ClassId} {v w : Int32} {n : Nat} {M : fm_M} (hn : 629 ≤ n) (hR : fm_RP M) (hv : ¬ fm_in 4 v) (hw : ¬ w ≤ 0) : Met l y_Mo_write (Cond.code y_Mo_write b_Mo_write 3 (some .int) :: fm_T0) ({ frames := 2, cells := 0, slots := 0, locals := 44 }) (fm_Pc fm_lay fm_nf fm_fk fm_cl b x D dA (fm_tys dA) (fm_EX b x) false [.ref 586, .int v, .int w] n M) (fm_Qc fm_lay fm_nf fm_fk fm_cl b x D dA (fun r n' M' => r = some (.int (nI 0)) ∧ n' = n ∧ M' = fm_put1 M 586 0 (nI 1))) 0 0 (fm_A b) := by
  refine fm_enter (by decide) (Nat.le_of_ble_eq_true rfl) ?_
  intro p e s m args below meth c hc hr hnm hex htg
  refine fm_aload_n hc d_Mo_write_0 rfl rfl ?_
  refine fm_aload_n hc d_Mo_write_1 rfl rfl ?_
  refine fm_iload_n hc d_Mo_write_2 rfl rfl ?_
  refine fm_iload_n hc d_Mo_write_3 rfl rfl ?_
  refine fm_if_le (tgt := 11) hc d_Mo_write_4 rfl (fun g => absurd g hw) (fun _ => ?_)
  refine fm_iconst (v := nI 1) hc d_Mo_write_7 rfl ?_
  refine fm_goto (tgt := 12) hc d_Mo_write_8 rfl ?_
  refine fm_callV (av := [.int v, .int (nI 1)]) (rest := [.ref 586]) (ob := 586) (ci := 11) (r0 := ("AgentNetModel", F_Mo, 51)) (y := y_Mo_wrongAt) (bytes := b_Mo_wrongAt) hc fm_T0_good (fm_EX_st b x) hex q_1078 q_13 q_1075 q_1077 qs_Mo_wrongAt pd_Mo_wrongAt (by decide) (by omega) (by decide) (by decide) rfl rfl (c_wrongAt_bad hn hR hv) ⟨rfl, rfl, Nat.le_of_ble_eq_true rfl, Nat.le_of_ble_eq_true rfl⟩ ⟨Nat.le_of_ble_eq_true rfl, Nat.le_of_ble_eq_true rfl⟩ d_Mo_write_12 (Nat.le_of_ble_eq_true rfl) (fun r n2 M2 hp => ?_)
  obtain ⟨rfl, rfl, rfl⟩ := hp
  refine fm_cnt (z' := (0, 0)) rfl (fm_st (st' := [.int (nI 1), .ref 586]) rfl ?_)
  refine fm_putI (k := 0) (v := nI 1) hc K_Mo d_Mo_write_15 q_885 rfl (by decide) (by omega) (by decide) (by decide) (by decide) rfl rfl rfl rfl ?_
  refine fm_aload_n hc d_Mo_write_18 rfl rfl ?_
  refine fm_aload_n hc d_Mo_write_19 rfl rfl ?_
  refine fm_getI (k := 0) hc K_Mo d_Mo_write_20 q_885 rfl (by decide) (by omega) (by decide) (by decide) (by decide) rfl ?_
  refine fm_top (congrArg Value.int (p1_same _ 586 0 (nI 1))) ?_
  refine fm_if_ne (tgt := 39) hc d_Mo_write_23 rfl (fun _ => ?_) (fun g => absurd g (by decide))
  refine fm_aload_n hc d_Mo_write_39 rfl rfl ?_
  refine fm_getI (k := 0) hc K_Mo d_Mo_write_40 q_885 rfl (by decide) (by omega) (by decide) (by decide) (by decide) rfl ?_
  refine fm_top (congrArg Value.int (p1_same _ 586 0 (nI 1))) ?_
  refine fm_putI (k := 0) (v := nI 1) hc K_Mo d_Mo_write_43 q_885 rfl (by decide) (by omega) (by decide) (by decide) (by decide) rfl rfl rfl rfl ?_
  refine fm_aload_n hc d_Mo_write_46 rfl rfl ?_
  refine fm_getI (k := 0) hc K_Mo d_Mo_write_47 q_885 rfl (by decide) (by omega) (by decide) (by decide) (by decide) rfl ?_
  refine fm_top (congrArg Value.int (p1_same _ 586 0 (nI 1))) ?_
  refine fm_if_le (tgt := 55) hc d_Mo_write_50 rfl (fun g => absurd g (by decide)) (fun _ => ?_)
  refine fm_iconst (v := nI 0) hc d_Mo_write_53 rfl ?_
  exact fm_iret hc hr d_Mo_write_54 (Nat.le_refl _) (Nat.le_refl _) ⟨rfl, rfl, p1_twice _ _ _ _ _⟩
theorem r_write_bad0 {l : Launch} {b : Nat} {x : Nat → Nat} {D : va_G} {dA : Nat → ClassId} {v w : Int32} {n : Nat} {M : fm_M} (hn : 629 ≤ n) (hR : fm_RP M) (hv : ¬ fm_in 4 v) (hw : w ≤ 0) : Met l y_Mo_write (Cond.code y_Mo_write b_Mo_write 3 (some .int) :: fm_T0) ({ frames := 2, cells := 0, slots := 0, locals := 44 }) (fm_Pc fm_lay fm_nf fm_fk fm_cl b x D dA (fm_tys dA) (fm_EX b x) false [.ref 586, .int v, .int w] n M) (fm_Qc fm_lay fm_nf fm_fk fm_cl b x D dA (fun r n' M' => r = some (.int (nI 0)) ∧ n' = n ∧ M' = fm_put1 M 586 0 (nI 1))) 0 0 (fm_A b) := by
  refine fm_enter (by decide) (Nat.le_of_ble_eq_true rfl) ?_
  intro p e s m args below meth c hc hr hnm hex htg
  refine fm_aload_n hc d_Mo_write_0 rfl rfl ?_
  refine fm_aload_n hc d_Mo_write_1 rfl rfl ?_
  refine fm_iload_n hc d_Mo_write_2 rfl rfl ?_
  refine fm_iload_n hc d_Mo_write_3 rfl rfl ?_
  refine fm_if_le (tgt := 11) hc d_Mo_write_4 rfl (fun _ => ?_) (fun g => absurd hw g)
  refine fm_iconst (v := nI 0) hc d_Mo_write_11 rfl ?_
  refine fm_callV (av := [.int v, .int (nI 0)]) (rest := [.ref 586]) (ob := 586) (ci := 11) (r0 := ("AgentNetModel", F_Mo, 51)) (y := y_Mo_wrongAt) (bytes := b_Mo_wrongAt) hc fm_T0_good (fm_EX_st b x) hex q_1078 q_13 q_1075 q_1077 qs_Mo_wrongAt pd_Mo_wrongAt (by decide) (by omega) (by decide) (by decide) rfl rfl (c_wrongAt_bad hn hR hv) ⟨rfl, rfl, Nat.le_of_ble_eq_true rfl, Nat.le_of_ble_eq_true rfl⟩ ⟨Nat.le_of_ble_eq_true rfl, Nat.le_of_ble_eq_true rfl⟩ d_Mo_write_12 (Nat.le_of_ble_eq_true rfl) (fun r n2 M2 hp => ?_)
  obtain ⟨rfl, rfl, rfl⟩ := hp
  refine fm_cnt (z' := (0, 0)) rfl (fm_st (st' := [.int (nI 1), .ref 586]) rfl ?_)
  refine fm_putI (k := 0) (v := nI 1) hc K_Mo d_Mo_write_15 q_885 rfl (by decide) (by omega) (by decide) (by decide) (by decide) rfl rfl rfl rfl ?_
  refine fm_aload_n hc d_Mo_write_18 rfl rfl ?_
  refine fm_aload_n hc d_Mo_write_19 rfl rfl ?_
  refine fm_getI (k := 0) hc K_Mo d_Mo_write_20 q_885 rfl (by decide) (by omega) (by decide) (by decide) (by decide) rfl ?_
  refine fm_top (congrArg Value.int (p1_same _ 586 0 (nI 1))) ?_
  refine fm_if_ne (tgt := 39) hc d_Mo_write_23 rfl (fun _ => ?_) (fun g => absurd g (by decide))
  refine fm_aload_n hc d_Mo_write_39 rfl rfl ?_
  refine fm_getI (k := 0) hc K_Mo d_Mo_write_40 q_885 rfl (by decide) (by omega) (by decide) (by decide) (by decide) rfl ?_
  refine fm_top (congrArg Value.int (p1_same _ 586 0 (nI 1))) ?_
  refine fm_putI (k := 0) (v := nI 1) hc K_Mo d_Mo_write_43 q_885 rfl (by decide) (by omega) (by decide) (by decide) (by decide) rfl rfl rfl rfl ?_
  refine fm_aload_n hc d_Mo_write_46 rfl rfl ?_
  refine fm_getI (k := 0) hc K_Mo d_Mo_write_47 q_885 rfl (by decide) (by omega) (by decide) (by decide) (by decide) rfl ?_
  refine fm_top (congrArg Value.int (p1_same _ 586 0 (nI 1))) ?_
  refine fm_if_le (tgt := 55) hc d_Mo_write_50 rfl (fun g => absurd g (by decide)) (fun _ => ?_)
  refine fm_iconst (v := nI 0) hc d_Mo_write_53 rfl ?_
  exact fm_iret hc hr d_Mo_write_54 (Nat.le_refl _) (Nat.le_refl _) ⟨rfl, rfl, p1_twice _ _ _ _ _⟩
theorem r_write_unfit {l : Launch} {b : Nat} {x : Nat → Nat} {D : va_G} {dA : Nat → ClassId} {v w : Int32} {n : Nat} {M : fm_M} (hn : 629 ≤ n) (hR : fm_RP M) (hv : fm_in 4 v) (hw : w ≤ 0) : Met l y_Mo_write (Cond.code y_Mo_write b_Mo_write 3 (some .int) :: fm_T0) ({ frames := 2, cells := 0, slots := 0, locals := 44 }) (fm_Pc fm_lay fm_nf fm_fk fm_cl b x D dA (fm_tys dA) (fm_EX b x) false [.ref 586, .int v, .int w] n M) (fm_Qc fm_lay fm_nf fm_fk fm_cl b x D dA (fun r n' M' => r = some (.int (nI 0)) ∧ n' = n ∧ M' = fm_put1 M 586 0 (nI 1))) 0 0 (fm_A b) := by
  refine fm_enter (by decide) (Nat.le_of_ble_eq_true rfl) ?_
  intro p e s m args below meth c hc hr hnm hex htg
  refine fm_aload_n hc d_Mo_write_0 rfl rfl ?_
  refine fm_aload_n hc d_Mo_write_1 rfl rfl ?_
  refine fm_iload_n hc d_Mo_write_2 rfl rfl ?_
  refine fm_iload_n hc d_Mo_write_3 rfl rfl ?_
  refine fm_if_le (tgt := 11) hc d_Mo_write_4 rfl (fun _ => ?_) (fun g => absurd hw g)
  refine fm_iconst (v := nI 0) hc d_Mo_write_11 rfl ?_
  refine fm_callV (av := [.int v, .int (nI 0)]) (rest := [.ref 586]) (ob := 586) (ci := 11) (r0 := ("AgentNetModel", F_Mo, 51)) (y := y_Mo_wrongAt) (bytes := b_Mo_wrongAt) hc fm_T0_good (fm_EX_st b x) hex q_1078 q_13 q_1075 q_1077 qs_Mo_wrongAt pd_Mo_wrongAt (by decide) (by omega) (by decide) (by decide) rfl rfl (c_wrongAt_unfit hn hR hv) ⟨rfl, rfl, Nat.le_of_ble_eq_true rfl, Nat.le_of_ble_eq_true rfl⟩ ⟨Nat.le_of_ble_eq_true rfl, Nat.le_of_ble_eq_true rfl⟩ d_Mo_write_12 (Nat.le_of_ble_eq_true rfl) (fun r n2 M2 hp => ?_)
  obtain ⟨rfl, rfl, rfl⟩ := hp
  refine fm_cnt (z' := (0, 0)) rfl (fm_st (st' := [.int (nI 1), .ref 586]) rfl ?_)
  refine fm_putI (k := 0) (v := nI 1) hc K_Mo d_Mo_write_15 q_885 rfl (by decide) (by omega) (by decide) (by decide) (by decide) rfl rfl rfl rfl ?_
  refine fm_aload_n hc d_Mo_write_18 rfl rfl ?_
  refine fm_aload_n hc d_Mo_write_19 rfl rfl ?_
  refine fm_getI (k := 0) hc K_Mo d_Mo_write_20 q_885 rfl (by decide) (by omega) (by decide) (by decide) (by decide) rfl ?_
  refine fm_top (congrArg Value.int (p1_same _ 586 0 (nI 1))) ?_
  refine fm_if_ne (tgt := 39) hc d_Mo_write_23 rfl (fun _ => ?_) (fun g => absurd g (by decide))
  refine fm_aload_n hc d_Mo_write_39 rfl rfl ?_
  refine fm_getI (k := 0) hc K_Mo d_Mo_write_40 q_885 rfl (by decide) (by omega) (by decide) (by decide) (by decide) rfl ?_
  refine fm_top (congrArg Value.int (p1_same _ 586 0 (nI 1))) ?_
  refine fm_putI (k := 0) (v := nI 1) hc K_Mo d_Mo_write_43 q_885 rfl (by decide) (by omega) (by decide) (by decide) (by decide) rfl rfl rfl rfl ?_
  refine fm_aload_n hc d_Mo_write_46 rfl rfl ?_
  refine fm_getI (k := 0) hc K_Mo d_Mo_write_47 q_885 rfl (by decide) (by omega) (by decide) (by decide) (by decide) rfl ?_
  refine fm_top (congrArg Value.int (p1_same _ 586 0 (nI 1))) ?_
  refine fm_if_le (tgt := 55) hc d_Mo_write_50 rfl (fun g => absurd g (by decide)) (fun _ => ?_)
  refine fm_iconst (v := nI 0) hc d_Mo_write_53 rfl ?_
  exact fm_iret hc hr d_Mo_write_54 (Nat.le_refl _) (Nat.le_refl _) ⟨rfl, rfl, p1_twice _ _ _ _ _⟩
theorem r_write_down {l : Launch} {b : Nat} {x : Nat → Nat} {D : va_G} {dA : Nat → ClassId} {j : Nat} {w : Int32} {n : Nat} {M : fm_M} (hn : 629 ≤ n) (hR : fm_RP M) (hj : j < 4) (hw : ¬ w ≤ 0) (hu : M.1 595 j = 0) : Met l y_Mo_write (Cond.code y_Mo_write b_Mo_write 3 (some .int) :: fm_T0) ({ frames := 2, cells := 0, slots := 0, locals := 44 }) (fm_Pc fm_lay fm_nf fm_fk fm_cl b x D dA (fm_tys dA) (fm_EX b x) false [.ref 586, .int (nI j), .int w] n M) (fm_Qc fm_lay fm_nf fm_fk fm_cl b x D dA (fun r n' M' => r = some (.int (nI 0)) ∧ n' = n ∧ M' = fm_put1 M 586 0 (nI 2))) 0 0 (fm_A b) := by
  refine fm_enter (by decide) (Nat.le_of_ble_eq_true rfl) ?_
  intro p e s m args below meth c hc hr hnm hex htg
  refine fm_aload_n hc d_Mo_write_0 rfl rfl ?_
  refine fm_aload_n hc d_Mo_write_1 rfl rfl ?_
  refine fm_iload_n hc d_Mo_write_2 rfl rfl ?_
  refine fm_iload_n hc d_Mo_write_3 rfl rfl ?_
  refine fm_if_le (tgt := 11) hc d_Mo_write_4 rfl (fun g => absurd g hw) (fun _ => ?_)
  refine fm_iconst (v := nI 1) hc d_Mo_write_7 rfl ?_
  refine fm_goto (tgt := 12) hc d_Mo_write_8 rfl ?_
  refine fm_callV (av := [.int (nI j), .int (nI 1)]) (rest := [.ref 586]) (ob := 586) (ci := 11) (r0 := ("AgentNetModel", F_Mo, 51)) (y := y_Mo_wrongAt) (bytes := b_Mo_wrongAt) hc fm_T0_good (fm_EX_st b x) hex q_1078 q_13 q_1075 q_1077 qs_Mo_wrongAt pd_Mo_wrongAt (by decide) (by omega) (by decide) (by decide) rfl rfl (c_wrongAt_down hn hR hj hu) ⟨rfl, rfl, Nat.le_of_ble_eq_true rfl, Nat.le_of_ble_eq_true rfl⟩ ⟨Nat.le_of_ble_eq_true rfl, Nat.le_of_ble_eq_true rfl⟩ d_Mo_write_12 (Nat.le_of_ble_eq_true rfl) (fun r n2 M2 hp => ?_)
  obtain ⟨rfl, rfl, rfl⟩ := hp
  refine fm_cnt (z' := (0, 0)) rfl (fm_st (st' := [.int (nI 2), .ref 586]) rfl ?_)
  refine fm_putI (k := 0) (v := nI 2) hc K_Mo d_Mo_write_15 q_885 rfl (by decide) (by omega) (by decide) (by decide) (by decide) rfl rfl rfl rfl ?_
  refine fm_aload_n hc d_Mo_write_18 rfl rfl ?_
  refine fm_aload_n hc d_Mo_write_19 rfl rfl ?_
  refine fm_getI (k := 0) hc K_Mo d_Mo_write_20 q_885 rfl (by decide) (by omega) (by decide) (by decide) (by decide) rfl ?_
  refine fm_top (congrArg Value.int (p1_same _ 586 0 (nI 2))) ?_
  refine fm_if_ne (tgt := 39) hc d_Mo_write_23 rfl (fun _ => ?_) (fun g => absurd g (by decide))
  refine fm_aload_n hc d_Mo_write_39 rfl rfl ?_
  refine fm_getI (k := 0) hc K_Mo d_Mo_write_40 q_885 rfl (by decide) (by omega) (by decide) (by decide) (by decide) rfl ?_
  refine fm_top (congrArg Value.int (p1_same _ 586 0 (nI 2))) ?_
  refine fm_putI (k := 0) (v := nI 2) hc K_Mo d_Mo_write_43 q_885 rfl (by decide) (by omega) (by decide) (by decide) (by decide) rfl rfl rfl rfl ?_
  refine fm_aload_n hc d_Mo_write_46 rfl rfl ?_
  refine fm_getI (k := 0) hc K_Mo d_Mo_write_47 q_885 rfl (by decide) (by omega) (by decide) (by decide) (by decide) rfl ?_
  refine fm_top (congrArg Value.int (p1_same _ 586 0 (nI 2))) ?_
  refine fm_if_le (tgt := 55) hc d_Mo_write_50 rfl (fun g => absurd g (by decide)) (fun _ => ?_)
  refine fm_iconst (v := nI 0) hc d_Mo_write_53 rfl ?_
  exact fm_iret hc hr d_Mo_write_54 (Nat.le_refl _) (Nat.le_refl _) ⟨rfl, rfl, p1_twice _ _ _ _ _⟩
theorem r_write_none {l : Launch} {b : Nat} {x : Nat → Nat} {D : va_G} {dA : Nat → ClassId} {j : Nat} {w : Int32} {n : Nat} {M : fm_M} (hn : 629 ≤ n) (hR : fm_RP M) (hj : j < 4) (hw : ¬ w ≤ 0) (hu : ¬ M.1 595 j = 0) (hl : M.1 596 j = 0) : Met l y_Mo_write (Cond.code y_Mo_write b_Mo_write 3 (some .int) :: fm_T0) ({ frames := 2, cells := 0, slots := 0, locals := 44 }) (fm_Pc fm_lay fm_nf fm_fk fm_cl b x D dA (fm_tys dA) (fm_EX b x) false [.ref 586, .int (nI j), .int w] n M) (fm_Qc fm_lay fm_nf fm_fk fm_cl b x D dA (fun r n' M' => r = some (.int (nI 0)) ∧ n' = n ∧ M' = fm_put1 M 586 0 (nI 2))) 0 0 (fm_A b) := by
  refine fm_enter (by decide) (Nat.le_of_ble_eq_true rfl) ?_
  intro p e s m args below meth c hc hr hnm hex htg
  refine fm_aload_n hc d_Mo_write_0 rfl rfl ?_
  refine fm_aload_n hc d_Mo_write_1 rfl rfl ?_
  refine fm_iload_n hc d_Mo_write_2 rfl rfl ?_
  refine fm_iload_n hc d_Mo_write_3 rfl rfl ?_
  refine fm_if_le (tgt := 11) hc d_Mo_write_4 rfl (fun g => absurd g hw) (fun _ => ?_)
  refine fm_iconst (v := nI 1) hc d_Mo_write_7 rfl ?_
  refine fm_goto (tgt := 12) hc d_Mo_write_8 rfl ?_
  refine fm_callV (av := [.int (nI j), .int (nI 1)]) (rest := [.ref 586]) (ob := 586) (ci := 11) (r0 := ("AgentNetModel", F_Mo, 51)) (y := y_Mo_wrongAt) (bytes := b_Mo_wrongAt) hc fm_T0_good (fm_EX_st b x) hex q_1078 q_13 q_1075 q_1077 qs_Mo_wrongAt pd_Mo_wrongAt (by decide) (by omega) (by decide) (by decide) rfl rfl (c_wrongAt_fine hn hR hj hu) ⟨rfl, rfl, Nat.le_of_ble_eq_true rfl, Nat.le_of_ble_eq_true rfl⟩ ⟨Nat.le_of_ble_eq_true rfl, Nat.le_of_ble_eq_true rfl⟩ d_Mo_write_12 (Nat.le_of_ble_eq_true rfl) (fun r n2 M2 hp => ?_)
  obtain ⟨rfl, rfl, rfl⟩ := hp
  refine fm_cnt (z' := (0, 0)) rfl (fm_st (st' := [.int (nI 0), .ref 586]) rfl ?_)
  refine fm_putI (k := 0) (v := nI 0) hc K_Mo d_Mo_write_15 q_885 rfl (by decide) (by omega) (by decide) (by decide) (by decide) rfl rfl rfl rfl ?_
  refine fm_aload_n hc d_Mo_write_18 rfl rfl ?_
  refine fm_aload_n hc d_Mo_write_19 rfl rfl ?_
  refine fm_getI (k := 0) hc K_Mo d_Mo_write_20 q_885 rfl (by decide) (by omega) (by decide) (by decide) (by decide) rfl ?_
  refine fm_top (congrArg Value.int (p1_same _ 586 0 (nI 0))) ?_
  refine fm_if_ne (tgt := 39) hc d_Mo_write_23 rfl (fun g => absurd rfl g) (fun _ => ?_)
  refine fm_aload_n hc d_Mo_write_26 rfl rfl ?_
  refine fm_getR (k := 11) (q := 596) hc K_Mo d_Mo_write_27 q_896 rfl (by decide) (by omega) (by decide) (by decide) (by decide) rfl (rp_left hR) ?_
  refine fm_iload_n hc d_Mo_write_30 rfl rfl ?_
  refine fm_iald (j := j) (len := 4) hc 0 d_Mo_write_31 (by decide) (by omega) (by decide) rfl (by omega) (by decide) ?_
  refine fm_if_ne (tgt := 39) hc d_Mo_write_32 rfl (fun g => absurd hl g) (fun _ => ?_)
  refine fm_iconst (v := nI 2) hc d_Mo_write_35 rfl ?_
  refine fm_goto (tgt := 43) hc d_Mo_write_36 rfl ?_
  refine fm_putI (k := 0) (v := nI 2) hc K_Mo d_Mo_write_43 q_885 rfl (by decide) (by omega) (by decide) (by decide) (by decide) rfl rfl rfl rfl ?_
  refine fm_aload_n hc d_Mo_write_46 rfl rfl ?_
  refine fm_getI (k := 0) hc K_Mo d_Mo_write_47 q_885 rfl (by decide) (by omega) (by decide) (by decide) (by decide) rfl ?_
  refine fm_top (congrArg Value.int (p1_same _ 586 0 (nI 2))) ?_
  refine fm_if_le (tgt := 55) hc d_Mo_write_50 rfl (fun g => absurd g (by decide)) (fun _ => ?_)
  refine fm_iconst (v := nI 0) hc d_Mo_write_53 rfl ?_
  exact fm_iret hc hr d_Mo_write_54 (Nat.le_refl _) (Nat.le_refl _) ⟨rfl, rfl, p1_twice _ _ _ _ _⟩
theorem r_launch_bad1 {l : Launch} {b : Nat} {x : Nat → Nat} {D : va_G} {dA : Nat → ClassId} {v w u : Int32} {n : Nat} {M : fm_M} (hn : 629 ≤ n) (hR : fm_RP M) (hv : ¬ fm_in 4 v) : Met l y_Mo_launch (Cond.code y_Mo_launch b_Mo_launch 4 (some .int) :: fm_T0) ({ frames := 1, cells := 0, slots := 0, locals := 22 }) (fm_Pc fm_lay fm_nf fm_fk fm_cl b x D dA (fm_tys dA) (fm_EX b x) false [.ref 586, .int v, .int w, .int u] n M) (fm_Qc fm_lay fm_nf fm_fk fm_cl b x D dA (fun r n' M' => r = some (.int (nI 0)) ∧ n' = n ∧ M' = fm_put1 M 586 0 (nI 1))) 0 0 (fm_A b) := by
  refine fm_enter (by decide) (Nat.le_of_ble_eq_true rfl) ?_
  intro p e s m args below meth c hc hr hnm hex htg
  refine fm_aload_n hc d_Mo_launch_0 rfl rfl ?_
  refine fm_iconst (v := nI 0) hc d_Mo_launch_1 rfl ?_
  refine fm_putI (k := 0) (v := nI 0) hc K_Mo d_Mo_launch_2 q_885 rfl (by decide) (by omega) (by decide) (by decide) (by decide) rfl rfl rfl rfl ?_
  refine fm_iload_n hc d_Mo_launch_5 rfl rfl ?_
  refine fm_iconst (v := nI 0) hc d_Mo_launch_6 rfl ?_
  refine fm_iconst (v := nI 3) hc d_Mo_launch_7 rfl ?_
  refine fm_callS (av := [.int v, .int (nI 0), .int (nI 3)]) (rest := []) (y := y_Mo_within) (bytes := b_Mo_within) hc fm_T0_good (fm_EX_st b x) hex q_1049 q_13 q_1047 q_1048 pd_Mo_within (c_Mo_within_no (wi_no4 hv)) ⟨rfl, rfl, Nat.le_of_ble_eq_true rfl, Nat.le_of_ble_eq_true rfl⟩ ⟨Nat.le_of_ble_eq_true rfl, Nat.le_of_ble_eq_true rfl⟩ d_Mo_launch_8 (Nat.le_of_ble_eq_true rfl) (fun r n2 M2 hp => ?_)
  obtain ⟨rfl, rfl, rfl⟩ := hp
  refine fm_cnt (z' := (0, 0)) rfl (fm_st (st' := [.int (nI 0)]) rfl ?_)
  refine fm_if_eq (tgt := 34) hc d_Mo_launch_11 rfl (fun _ => ?_) (fun g => absurd rfl g)
  refine fm_aload_n hc d_Mo_launch_34 rfl rfl ?_
  refine fm_iconst (v := nI 1) hc d_Mo_launch_35 rfl ?_
  refine fm_callV (av := [.int (nI 1)]) (rest := []) (ob := 586) (ci := 11) (r0 := ("AgentNetModel", F_Mo, 51)) (y := y_Mo_refuse) (bytes := b_Mo_refuse) hc fm_T0_good (fm_EX_st b x) hex q_1062 q_13 q_1059 q_1061 qs_Mo_refuse pd_Mo_refuse (by decide) (by omega) (by decide) (by decide) rfl rfl (c_Mo_refuse hn) ⟨rfl, rfl, Nat.le_of_ble_eq_true rfl, Nat.le_of_ble_eq_true rfl⟩ ⟨Nat.le_of_ble_eq_true rfl, Nat.le_of_ble_eq_true rfl⟩ d_Mo_launch_36 (Nat.le_of_ble_eq_true rfl) (fun r n2 M2 hp => ?_)
  obtain ⟨rfl, rfl, rfl⟩ := hp
  refine fm_cnt (z' := (0, 0)) rfl (fm_st (st' := [.int (nI 0)]) rfl ?_)
  exact fm_iret hc hr d_Mo_launch_39 (Nat.le_refl _) (Nat.le_refl _) ⟨rfl, rfl, p1_twice _ _ _ _ _⟩
theorem r_launch_bad2 {l : Launch} {b : Nat} {x : Nat → Nat} {D : va_G} {dA : Nat → ClassId} {v w u : Int32} {n : Nat} {M : fm_M} (hn : 629 ≤ n) (hR : fm_RP M) (hv : fm_in 4 v) (hw : ¬ fm_in 4 w) : Met l y_Mo_launch (Cond.code y_Mo_launch b_Mo_launch 4 (some .int) :: fm_T0) ({ frames := 1, cells := 0, slots := 0, locals := 22 }) (fm_Pc fm_lay fm_nf fm_fk fm_cl b x D dA (fm_tys dA) (fm_EX b x) false [.ref 586, .int v, .int w, .int u] n M) (fm_Qc fm_lay fm_nf fm_fk fm_cl b x D dA (fun r n' M' => r = some (.int (nI 0)) ∧ n' = n ∧ M' = fm_put1 M 586 0 (nI 1))) 0 0 (fm_A b) := by
  refine fm_enter (by decide) (Nat.le_of_ble_eq_true rfl) ?_
  intro p e s m args below meth c hc hr hnm hex htg
  refine fm_aload_n hc d_Mo_launch_0 rfl rfl ?_
  refine fm_iconst (v := nI 0) hc d_Mo_launch_1 rfl ?_
  refine fm_putI (k := 0) (v := nI 0) hc K_Mo d_Mo_launch_2 q_885 rfl (by decide) (by omega) (by decide) (by decide) (by decide) rfl rfl rfl rfl ?_
  refine fm_iload_n hc d_Mo_launch_5 rfl rfl ?_
  refine fm_iconst (v := nI 0) hc d_Mo_launch_6 rfl ?_
  refine fm_iconst (v := nI 3) hc d_Mo_launch_7 rfl ?_
  refine fm_callS (av := [.int v, .int (nI 0), .int (nI 3)]) (rest := []) (y := y_Mo_within) (bytes := b_Mo_within) hc fm_T0_good (fm_EX_st b x) hex q_1049 q_13 q_1047 q_1048 pd_Mo_within (c_Mo_within_ok (wi_of4 hv)) ⟨rfl, rfl, Nat.le_of_ble_eq_true rfl, Nat.le_of_ble_eq_true rfl⟩ ⟨Nat.le_of_ble_eq_true rfl, Nat.le_of_ble_eq_true rfl⟩ d_Mo_launch_8 (Nat.le_of_ble_eq_true rfl) (fun r n2 M2 hp => ?_)
  obtain ⟨rfl, rfl, rfl⟩ := hp
  refine fm_cnt (z' := (0, 0)) rfl (fm_st (st' := [.int (nI 1)]) rfl ?_)
  refine fm_if_eq (tgt := 34) hc d_Mo_launch_11 rfl (fun g => absurd g (by decide)) (fun _ => ?_)
  refine fm_iload_n hc d_Mo_launch_14 rfl rfl ?_
  refine fm_iconst (v := nI 0) hc d_Mo_launch_15 rfl ?_
  refine fm_iconst (v := nI 3) hc d_Mo_launch_16 rfl ?_
  refine fm_callS (av := [.int w, .int (nI 0), .int (nI 3)]) (rest := []) (y := y_Mo_within) (bytes := b_Mo_within) hc fm_T0_good (fm_EX_st b x) hex q_1049 q_13 q_1047 q_1048 pd_Mo_within (c_Mo_within_no (wi_no4 hw)) ⟨rfl, rfl, Nat.le_of_ble_eq_true rfl, Nat.le_of_ble_eq_true rfl⟩ ⟨Nat.le_of_ble_eq_true rfl, Nat.le_of_ble_eq_true rfl⟩ d_Mo_launch_17 (Nat.le_of_ble_eq_true rfl) (fun r n2 M2 hp => ?_)
  obtain ⟨rfl, rfl, rfl⟩ := hp
  refine fm_cnt (z' := (0, 0)) rfl (fm_st (st' := [.int (nI 0)]) rfl ?_)
  refine fm_if_eq (tgt := 34) hc d_Mo_launch_20 rfl (fun _ => ?_) (fun g => absurd rfl g)
  refine fm_aload_n hc d_Mo_launch_34 rfl rfl ?_
  refine fm_iconst (v := nI 1) hc d_Mo_launch_35 rfl ?_
  refine fm_callV (av := [.int (nI 1)]) (rest := []) (ob := 586) (ci := 11) (r0 := ("AgentNetModel", F_Mo, 51)) (y := y_Mo_refuse) (bytes := b_Mo_refuse) hc fm_T0_good (fm_EX_st b x) hex q_1062 q_13 q_1059 q_1061 qs_Mo_refuse pd_Mo_refuse (by decide) (by omega) (by decide) (by decide) rfl rfl (c_Mo_refuse hn) ⟨rfl, rfl, Nat.le_of_ble_eq_true rfl, Nat.le_of_ble_eq_true rfl⟩ ⟨Nat.le_of_ble_eq_true rfl, Nat.le_of_ble_eq_true rfl⟩ d_Mo_launch_36 (Nat.le_of_ble_eq_true rfl) (fun r n2 M2 hp => ?_)
  obtain ⟨rfl, rfl, rfl⟩ := hp
  refine fm_cnt (z' := (0, 0)) rfl (fm_st (st' := [.int (nI 0)]) rfl ?_)
  exact fm_iret hc hr d_Mo_launch_39 (Nat.le_refl _) (Nat.le_refl _) ⟨rfl, rfl, p1_twice _ _ _ _ _⟩
theorem r_launch_bad3 {l : Launch} {b : Nat} {x : Nat → Nat} {D : va_G} {dA : Nat → ClassId} {v w u : Int32} {n : Nat} {M : fm_M} (hn : 629 ≤ n) (hR : fm_RP M) (hv : fm_in 4 v) (hw : fm_in 4 w) (hf : ¬ fm_wi u (nI 1) (nI 200)) : Met l y_Mo_launch (Cond.code y_Mo_launch b_Mo_launch 4 (some .int) :: fm_T0) ({ frames := 1, cells := 0, slots := 0, locals := 22 }) (fm_Pc fm_lay fm_nf fm_fk fm_cl b x D dA (fm_tys dA) (fm_EX b x) false [.ref 586, .int v, .int w, .int u] n M) (fm_Qc fm_lay fm_nf fm_fk fm_cl b x D dA (fun r n' M' => r = some (.int (nI 0)) ∧ n' = n ∧ M' = fm_put1 M 586 0 (nI 1))) 0 0 (fm_A b) := by
  refine fm_enter (by decide) (Nat.le_of_ble_eq_true rfl) ?_
  intro p e s m args below meth c hc hr hnm hex htg
  refine fm_aload_n hc d_Mo_launch_0 rfl rfl ?_
  refine fm_iconst (v := nI 0) hc d_Mo_launch_1 rfl ?_
  refine fm_putI (k := 0) (v := nI 0) hc K_Mo d_Mo_launch_2 q_885 rfl (by decide) (by omega) (by decide) (by decide) (by decide) rfl rfl rfl rfl ?_
  refine fm_iload_n hc d_Mo_launch_5 rfl rfl ?_
  refine fm_iconst (v := nI 0) hc d_Mo_launch_6 rfl ?_
  refine fm_iconst (v := nI 3) hc d_Mo_launch_7 rfl ?_
  refine fm_callS (av := [.int v, .int (nI 0), .int (nI 3)]) (rest := []) (y := y_Mo_within) (bytes := b_Mo_within) hc fm_T0_good (fm_EX_st b x) hex q_1049 q_13 q_1047 q_1048 pd_Mo_within (c_Mo_within_ok (wi_of4 hv)) ⟨rfl, rfl, Nat.le_of_ble_eq_true rfl, Nat.le_of_ble_eq_true rfl⟩ ⟨Nat.le_of_ble_eq_true rfl, Nat.le_of_ble_eq_true rfl⟩ d_Mo_launch_8 (Nat.le_of_ble_eq_true rfl) (fun r n2 M2 hp => ?_)
  obtain ⟨rfl, rfl, rfl⟩ := hp
  refine fm_cnt (z' := (0, 0)) rfl (fm_st (st' := [.int (nI 1)]) rfl ?_)
  refine fm_if_eq (tgt := 34) hc d_Mo_launch_11 rfl (fun g => absurd g (by decide)) (fun _ => ?_)
  refine fm_iload_n hc d_Mo_launch_14 rfl rfl ?_
  refine fm_iconst (v := nI 0) hc d_Mo_launch_15 rfl ?_
  refine fm_iconst (v := nI 3) hc d_Mo_launch_16 rfl ?_
  refine fm_callS (av := [.int w, .int (nI 0), .int (nI 3)]) (rest := []) (y := y_Mo_within) (bytes := b_Mo_within) hc fm_T0_good (fm_EX_st b x) hex q_1049 q_13 q_1047 q_1048 pd_Mo_within (c_Mo_within_ok (wi_of4 hw)) ⟨rfl, rfl, Nat.le_of_ble_eq_true rfl, Nat.le_of_ble_eq_true rfl⟩ ⟨Nat.le_of_ble_eq_true rfl, Nat.le_of_ble_eq_true rfl⟩ d_Mo_launch_17 (Nat.le_of_ble_eq_true rfl) (fun r n2 M2 hp => ?_)
  obtain ⟨rfl, rfl, rfl⟩ := hp
  refine fm_cnt (z' := (0, 0)) rfl (fm_st (st' := [.int (nI 1)]) rfl ?_)
  refine fm_if_eq (tgt := 34) hc d_Mo_launch_20 rfl (fun g => absurd g (by decide)) (fun _ => ?_)
  refine fm_iload_n hc d_Mo_launch_23 rfl rfl ?_
  refine fm_iconst (v := nI 1) hc d_Mo_launch_24 rfl ?_
  refine fm_sipush (v := nI 200) hc d_Mo_launch_25 rfl ?_
  refine fm_callS (av := [.int u, .int (nI 1), .int (nI 200)]) (rest := []) (y := y_Mo_within) (bytes := b_Mo_within) hc fm_T0_good (fm_EX_st b x) hex q_1049 q_13 q_1047 q_1048 pd_Mo_within (c_Mo_within_no hf) ⟨rfl, rfl, Nat.le_of_ble_eq_true rfl, Nat.le_of_ble_eq_true rfl⟩ ⟨Nat.le_of_ble_eq_true rfl, Nat.le_of_ble_eq_true rfl⟩ d_Mo_launch_28 (Nat.le_of_ble_eq_true rfl) (fun r n2 M2 hp => ?_)
  obtain ⟨rfl, rfl, rfl⟩ := hp
  refine fm_cnt (z' := (0, 0)) rfl (fm_st (st' := [.int (nI 0)]) rfl ?_)
  refine fm_if_ne (tgt := 40) hc d_Mo_launch_31 rfl (fun g => absurd rfl g) (fun _ => ?_)
  refine fm_aload_n hc d_Mo_launch_34 rfl rfl ?_
  refine fm_iconst (v := nI 1) hc d_Mo_launch_35 rfl ?_
  refine fm_callV (av := [.int (nI 1)]) (rest := []) (ob := 586) (ci := 11) (r0 := ("AgentNetModel", F_Mo, 51)) (y := y_Mo_refuse) (bytes := b_Mo_refuse) hc fm_T0_good (fm_EX_st b x) hex q_1062 q_13 q_1059 q_1061 qs_Mo_refuse pd_Mo_refuse (by decide) (by omega) (by decide) (by decide) rfl rfl (c_Mo_refuse hn) ⟨rfl, rfl, Nat.le_of_ble_eq_true rfl, Nat.le_of_ble_eq_true rfl⟩ ⟨Nat.le_of_ble_eq_true rfl, Nat.le_of_ble_eq_true rfl⟩ d_Mo_launch_36 (Nat.le_of_ble_eq_true rfl) (fun r n2 M2 hp => ?_)
  obtain ⟨rfl, rfl, rfl⟩ := hp
  refine fm_cnt (z' := (0, 0)) rfl (fm_st (st' := [.int (nI 0)]) rfl ?_)
  exact fm_iret hc hr d_Mo_launch_39 (Nat.le_refl _) (Nat.le_refl _) ⟨rfl, rfl, p1_twice _ _ _ _ _⟩
theorem r_launch_down {l : Launch} {b : Nat} {x : Nat → Nat} {D : va_G} {dA : Nat → ClassId} {j : Nat} {w u : Int32} {n : Nat} {M : fm_M} (hn : 629 ≤ n) (hR : fm_RP M) (hj : j < 4) (hw : fm_in 4 w) (hf : fm_wi u (nI 1) (nI 200)) (hu : M.1 595 j = 0) : Met l y_Mo_launch (Cond.code y_Mo_launch b_Mo_launch 4 (some .int) :: fm_T0) ({ frames := 1, cells := 0, slots := 0, locals := 22 }) (fm_Pc fm_lay fm_nf fm_fk fm_cl b x D dA (fm_tys dA) (fm_EX b x) false [.ref 586, .int (nI j), .int w, .int u] n M) (fm_Qc fm_lay fm_nf fm_fk fm_cl b x D dA (fun r n' M' => r = some (.int (nI 0)) ∧ n' = n ∧ M' = fm_put1 M 586 0 (nI 2))) 0 0 (fm_A b) := by
  refine fm_enter (by decide) (Nat.le_of_ble_eq_true rfl) ?_
  intro p e s m args below meth c hc hr hnm hex htg
  refine fm_aload_n hc d_Mo_launch_0 rfl rfl ?_
  refine fm_iconst (v := nI 0) hc d_Mo_launch_1 rfl ?_
  refine fm_putI (k := 0) (v := nI 0) hc K_Mo d_Mo_launch_2 q_885 rfl (by decide) (by omega) (by decide) (by decide) (by decide) rfl rfl rfl rfl ?_
  refine fm_iload_n hc d_Mo_launch_5 rfl rfl ?_
  refine fm_iconst (v := nI 0) hc d_Mo_launch_6 rfl ?_
  refine fm_iconst (v := nI 3) hc d_Mo_launch_7 rfl ?_
  refine fm_callS (av := [.int (nI j), .int (nI 0), .int (nI 3)]) (rest := []) (y := y_Mo_within) (bytes := b_Mo_within) hc fm_T0_good (fm_EX_st b x) hex q_1049 q_13 q_1047 q_1048 pd_Mo_within (c_Mo_within_ok (wi_of4 (in4_of hj))) ⟨rfl, rfl, Nat.le_of_ble_eq_true rfl, Nat.le_of_ble_eq_true rfl⟩ ⟨Nat.le_of_ble_eq_true rfl, Nat.le_of_ble_eq_true rfl⟩ d_Mo_launch_8 (Nat.le_of_ble_eq_true rfl) (fun r n2 M2 hp => ?_)
  obtain ⟨rfl, rfl, rfl⟩ := hp
  refine fm_cnt (z' := (0, 0)) rfl (fm_st (st' := [.int (nI 1)]) rfl ?_)
  refine fm_if_eq (tgt := 34) hc d_Mo_launch_11 rfl (fun g => absurd g (by decide)) (fun _ => ?_)
  refine fm_iload_n hc d_Mo_launch_14 rfl rfl ?_
  refine fm_iconst (v := nI 0) hc d_Mo_launch_15 rfl ?_
  refine fm_iconst (v := nI 3) hc d_Mo_launch_16 rfl ?_
  refine fm_callS (av := [.int w, .int (nI 0), .int (nI 3)]) (rest := []) (y := y_Mo_within) (bytes := b_Mo_within) hc fm_T0_good (fm_EX_st b x) hex q_1049 q_13 q_1047 q_1048 pd_Mo_within (c_Mo_within_ok (wi_of4 hw)) ⟨rfl, rfl, Nat.le_of_ble_eq_true rfl, Nat.le_of_ble_eq_true rfl⟩ ⟨Nat.le_of_ble_eq_true rfl, Nat.le_of_ble_eq_true rfl⟩ d_Mo_launch_17 (Nat.le_of_ble_eq_true rfl) (fun r n2 M2 hp => ?_)
  obtain ⟨rfl, rfl, rfl⟩ := hp
  refine fm_cnt (z' := (0, 0)) rfl (fm_st (st' := [.int (nI 1)]) rfl ?_)
  refine fm_if_eq (tgt := 34) hc d_Mo_launch_20 rfl (fun g => absurd g (by decide)) (fun _ => ?_)
  refine fm_iload_n hc d_Mo_launch_23 rfl rfl ?_
  refine fm_iconst (v := nI 1) hc d_Mo_launch_24 rfl ?_
  refine fm_sipush (v := nI 200) hc d_Mo_launch_25 rfl ?_
  refine fm_callS (av := [.int u, .int (nI 1), .int (nI 200)]) (rest := []) (y := y_Mo_within) (bytes := b_Mo_within) hc fm_T0_good (fm_EX_st b x) hex q_1049 q_13 q_1047 q_1048 pd_Mo_within (c_Mo_within_ok hf) ⟨rfl, rfl, Nat.le_of_ble_eq_true rfl, Nat.le_of_ble_eq_true rfl⟩ ⟨Nat.le_of_ble_eq_true rfl, Nat.le_of_ble_eq_true rfl⟩ d_Mo_launch_28 (Nat.le_of_ble_eq_true rfl) (fun r n2 M2 hp => ?_)
  obtain ⟨rfl, rfl, rfl⟩ := hp
  refine fm_cnt (z' := (0, 0)) rfl (fm_st (st' := [.int (nI 1)]) rfl ?_)
  refine fm_if_ne (tgt := 40) hc d_Mo_launch_31 rfl (fun _ => ?_) (fun g => absurd g (by decide))
  refine fm_aload_n hc d_Mo_launch_40 rfl rfl ?_
  refine fm_getR (k := 10) (q := 595) hc K_Mo d_Mo_launch_41 q_895 rfl (by decide) (by omega) (by decide) (by decide) (by decide) rfl (rp_up hR) ?_
  refine fm_iload_n hc d_Mo_launch_44 rfl rfl ?_
  refine fm_zald (j := j) (len := 4) hc 1 d_Mo_launch_45 (by decide) (by omega) (by decide) rfl (by omega) (by decide) ?_
  refine fm_if_eq (tgt := 57) hc d_Mo_launch_46 rfl (fun _ => ?_) (fun g => absurd hu g)
  refine fm_aload_n hc d_Mo_launch_57 rfl rfl ?_
  refine fm_iconst (v := nI 2) hc d_Mo_launch_58 rfl ?_
  refine fm_callV (av := [.int (nI 2)]) (rest := []) (ob := 586) (ci := 11) (r0 := ("AgentNetModel", F_Mo, 51)) (y := y_Mo_refuse) (bytes := b_Mo_refuse) hc fm_T0_good (fm_EX_st b x) hex q_1062 q_13 q_1059 q_1061 qs_Mo_refuse pd_Mo_refuse (by decide) (by omega) (by decide) (by decide) rfl rfl (c_Mo_refuse hn) ⟨rfl, rfl, Nat.le_of_ble_eq_true rfl, Nat.le_of_ble_eq_true rfl⟩ ⟨Nat.le_of_ble_eq_true rfl, Nat.le_of_ble_eq_true rfl⟩ d_Mo_launch_59 (Nat.le_of_ble_eq_true rfl) (fun r n2 M2 hp => ?_)
  obtain ⟨rfl, rfl, rfl⟩ := hp
  refine fm_cnt (z' := (0, 0)) rfl (fm_st (st' := [.int (nI 0)]) rfl ?_)
  exact fm_iret hc hr d_Mo_launch_62 (Nat.le_refl _) (Nat.le_refl _) ⟨rfl, rfl, p1_twice _ _ _ _ _⟩
theorem x_checkpoint_busy {l : Launch} {b : Nat} {x : Nat → Nat} {D : va_G} {dA : Nat → ClassId} (htr : l.stackTraces = false) {j : Nat} {n : Nat} {M : fm_M} (hj : j < 4) (hn : 586 ≤ n) (hA : fm_AP M) (hu : ¬ M.1 (90 + 124 * j) 1 = 0) (hs : 0 < M.1 (90 + 124 * j) 2) : MetFree l y_An_checkpoint (headSpec (Cond.code y_An_checkpoint b_An_checkpoint 2 (some .int) :: fm_T0) ({ frames := 6, cells := 1, slots := 6, locals := 90 })) (fm_Pc fm_lay fm_nf fm_fk fm_cl b x D dA (fm_tys dA) (fm_EX b x) false [.ref 8, .int (nI j)] n M) (fun _ _ _ _ _ => True) (fx_Q fm_lay fm_nf fm_fk fm_cl b x D dA (fun _ _ _ => False) (fun E n' M' => E = fx_ISE ∧ n' = n ∧ M' = M) 1 6) := by
  refine fx_enter (by decide) (Nat.le_of_ble_eq_true rfl) ?_
  intro p e s m args below meth c hc hr hnm hex htg htab
  refine fm_iload_n hc d_An_checkpoint_0 rfl rfl ?_
  refine fm_callS (av := [.int (nI j)]) (rest := []) (y := y_An_isHost) (bytes := b_An_isHost) hc fm_T0_good (fm_EX_st b x) hex q_397 q_1 q_395 q_396 pd_An_isHost (c_An_isHost_ok (in4_of hj)) ⟨rfl, rfl, Nat.le_of_ble_eq_true rfl, Nat.le_of_ble_eq_true rfl⟩ ⟨Nat.le_of_ble_eq_true rfl, Nat.le_of_ble_eq_true rfl⟩ d_An_checkpoint_1 (Nat.le_of_ble_eq_true rfl) (fun r n2 M2 hp => ?_)
  obtain ⟨rfl, rfl, rfl⟩ := hp
  refine fm_cnt (z' := (0, 0)) rfl (fm_st (st' := [.int (nI 1)]) rfl ?_)
  refine fm_if_ne (tgt := 15) hc d_An_checkpoint_4 rfl (fun _ => ?_) (fun g => absurd g (by decide))
  refine fm_aload_n hc d_An_checkpoint_15 rfl rfl ?_
  refine fm_getR (k := 2) (q := 15) hc K_An d_An_checkpoint_16 q_357 rfl (by decide) (by omega) (by decide) (by decide) (by decide) rfl (ap_2 hA) ?_
  refine fm_iload_n hc d_An_checkpoint_19 rfl rfl ?_
  refine fm_aald (q := 90 + 124 * j) (j := j) (len := 4) hc 5 d_An_checkpoint_20 (by decide) (by omega) (by decide) (by decide) rfl (by omega) (by decide) (ap_site hA hj) ?_
  refine fm_getI (k := 1) hc K_Si d_An_checkpoint_21 q_334 rfl (by omega) (by omega) (ly_Si hj) (by decide) (by decide) rfl ?_
  refine fm_if_eq (tgt := 39) hc d_An_checkpoint_24 rfl (fun g => absurd g hu) (fun _ => ?_)
  refine fm_aload_n hc d_An_checkpoint_27 rfl rfl ?_
  refine fm_getR (k := 2) (q := 15) hc K_An d_An_checkpoint_28 q_357 rfl (by decide) (by omega) (by decide) (by decide) (by decide) rfl (ap_2 hA) ?_
  refine fm_iload_n hc d_An_checkpoint_31 rfl rfl ?_
  refine fm_aald (q := 90 + 124 * j) (j := j) (len := 4) hc 5 d_An_checkpoint_32 (by decide) (by omega) (by decide) (by decide) rfl (by omega) (by decide) (ap_site hA hj) ?_
  refine fm_getI (k := 2) hc K_Si d_An_checkpoint_33 q_336 rfl (by omega) (by omega) (ly_Si hj) (by decide) (by decide) rfl ?_
  refine fm_if_le (tgt := 47) hc d_An_checkpoint_36 rfl (fun g => absurd g (Int32.not_le.mpr hs)) (fun _ => ?_)
  exact fx_throw hc htr hex.2.2.2.2 (E := fx_ISE) (List.mem_of_getElem? (i := 1) rfl) fx_own_ISE q_552 q_553 q_18 d_An_checkpoint_39 d_An_checkpoint_42 d_An_checkpoint_43 d_An_checkpoint_46 htab (Nat.le_of_ble_eq_true rfl) (Nat.le_of_ble_eq_true rfl) ⟨Nat.le_of_ble_eq_true rfl, Nat.le_of_ble_eq_true rfl, Nat.le_of_ble_eq_true rfl, Nat.le_of_ble_eq_true rfl⟩ ⟨rfl, rfl, rfl⟩
theorem x_step_down {l : Launch} {b : Nat} {x : Nat → Nat} {D : va_G} {dA : Nat → ClassId} (htr : l.stackTraces = false) {j : Nat} {w : Int32} {n : Nat} {M : fm_M} (hj : j < 4) (hn : 586 ≤ n) (hA : fm_AP M) (hw : ¬ w < nI 1 ∧ w ≤ nI 40) (hu : M.1 (90 + 124 * j) 1 = 0) : MetFree l y_An_step (headSpec (Cond.code y_An_step b_An_step 5 (some .int) :: fm_T0) ({ frames := 6, cells := 1, slots := 6, locals := 90 })) (fm_Pc fm_lay fm_nf fm_fk fm_cl b x D dA (fm_tys dA) (fm_EX b x) false [.ref 8, .int (nI j), .int w] n M) (fun _ _ _ _ _ => True) (fx_Q fm_lay fm_nf fm_fk fm_cl b x D dA (fun _ _ _ => False) (fun E n' M' => E = fx_ISE ∧ n' = n ∧ M' = M) 1 6) := by
  refine fx_enter (by decide) (Nat.le_of_ble_eq_true rfl) ?_
  intro p e s m args below meth c hc hr hnm hex htg htab
  refine fm_iload_n hc d_An_step_0 rfl rfl ?_
  refine fm_callS (av := [.int (nI j)]) (rest := []) (y := y_An_isHost) (bytes := b_An_isHost) hc fm_T0_good (fm_EX_st b x) hex q_397 q_1 q_395 q_396 pd_An_isHost (c_An_isHost_ok (in4_of hj)) ⟨rfl, rfl, Nat.le_of_ble_eq_true rfl, Nat.le_of_ble_eq_true rfl⟩ ⟨Nat.le_of_ble_eq_true rfl, Nat.le_of_ble_eq_true rfl⟩ d_An_step_1 (Nat.le_of_ble_eq_true rfl) (fun r n2 M2 hp => ?_)
  obtain ⟨rfl, rfl, rfl⟩ := hp
  refine fm_cnt (z' := (0, 0)) rfl (fm_st (st' := [.int (nI 1)]) rfl ?_)
  refine fm_if_eq (tgt := 18) hc d_An_step_4 rfl (fun g => absurd g (by decide)) (fun _ => ?_)
  refine fm_iload_n hc d_An_step_7 rfl rfl ?_
  refine fm_iconst (v := nI 1) hc d_An_step_8 rfl ?_
  refine fm_icmp_lt (tgt := 18) hc d_An_step_9 rfl (fun g => absurd g hw.1) (fun _ => ?_)
  refine fm_iload_n hc d_An_step_12 rfl rfl ?_
  refine fm_bipush (v := nI 40) hc d_An_step_13 rfl ?_
  refine fm_icmp_le (tgt := 26) hc d_An_step_15 rfl (fun _ => ?_) (fun g => absurd hw.2 g)
  refine fm_aload_n hc d_An_step_26 rfl rfl ?_
  refine fm_getR (k := 2) (q := 15) hc K_An d_An_step_27 q_357 rfl (by decide) (by omega) (by decide) (by decide) (by decide) rfl (ap_2 hA) ?_
  refine fm_iload_n hc d_An_step_30 rfl rfl ?_
  refine fm_aald (q := 90 + 124 * j) (j := j) (len := 4) hc 5 d_An_step_31 (by decide) (by omega) (by decide) (by decide) rfl (by omega) (by decide) (ap_site hA hj) ?_
  refine fm_getI (k := 1) hc K_Si d_An_step_32 q_334 rfl (by omega) (by omega) (ly_Si hj) (by decide) (by decide) rfl ?_
  refine fm_if_ne (tgt := 46) hc d_An_step_35 rfl (fun g => absurd hu g) (fun _ => ?_)
  exact fx_throw hc htr hex.2.2.2.2 (E := fx_ISE) (List.mem_of_getElem? (i := 1) rfl) fx_own_ISE q_552 q_553 q_18 d_An_step_38 d_An_step_41 d_An_step_42 d_An_step_45 htab (Nat.le_of_ble_eq_true rfl) (Nat.le_of_ble_eq_true rfl) ⟨Nat.le_of_ble_eq_true rfl, Nat.le_of_ble_eq_true rfl, Nat.le_of_ble_eq_true rfl, Nat.le_of_ble_eq_true rfl⟩ ⟨rfl, rfl, rfl⟩
theorem x_write_down {l : Launch} {b : Nat} {x : Nat → Nat} {D : va_G} {dA : Nat → ClassId} (htr : l.stackTraces = false) {j : Nat} {w : Int32} {n : Nat} {M : fm_M} (hj : j < 4) (hn : 586 ≤ n) (hA : fm_AP M) (hw : nI 1 ≤ w) (hu : M.1 (90 + 124 * j) 1 = 0) : MetFree l y_An_write (headSpec (Cond.code y_An_write b_An_write 4 (some .int) :: fm_T0) ({ frames := 6, cells := 1, slots := 6, locals := 90 })) (fm_Pc fm_lay fm_nf fm_fk fm_cl b x D dA (fm_tys dA) (fm_EX b x) false [.ref 8, .int (nI j), .int w] n M) (fun _ _ _ _ _ => True) (fx_Q fm_lay fm_nf fm_fk fm_cl b x D dA (fun _ _ _ => False) (fun E n' M' => E = fx_ISE ∧ n' = n ∧ M' = M) 1 6) := by
  refine fx_enter (by decide) (Nat.le_of_ble_eq_true rfl) ?_
  intro p e s m args below meth c hc hr hnm hex htg htab
  refine fm_iload_n hc d_An_write_0 rfl rfl ?_
  refine fm_callS (av := [.int (nI j)]) (rest := []) (y := y_An_isHost) (bytes := b_An_isHost) hc fm_T0_good (fm_EX_st b x) hex q_397 q_1 q_395 q_396 pd_An_isHost (c_An_isHost_ok (in4_of hj)) ⟨rfl, rfl, Nat.le_of_ble_eq_true rfl, Nat.le_of_ble_eq_true rfl⟩ ⟨Nat.le_of_ble_eq_true rfl, Nat.le_of_ble_eq_true rfl⟩ d_An_write_1 (Nat.le_of_ble_eq_true rfl) (fun r n2 M2 hp => ?_)
  obtain ⟨rfl, rfl, rfl⟩ := hp
  refine fm_cnt (z' := (0, 0)) rfl (fm_st (st' := [.int (nI 1)]) rfl ?_)
  refine fm_if_eq (tgt := 12) hc d_An_write_4 rfl (fun g => absurd g (by decide)) (fun _ => ?_)
  refine fm_iload_n hc d_An_write_7 rfl rfl ?_
  refine fm_iconst (v := nI 1) hc d_An_write_8 rfl ?_
  refine fm_icmp_ge (tgt := 20) hc d_An_write_9 rfl (fun _ => ?_) (fun g => absurd hw g)
  refine fm_aload_n hc d_An_write_20 rfl rfl ?_
  refine fm_getR (k := 2) (q := 15) hc K_An d_An_write_21 q_357 rfl (by decide) (by omega) (by decide) (by decide) (by decide) rfl (ap_2 hA) ?_
  refine fm_iload_n hc d_An_write_24 rfl rfl ?_
  refine fm_aald (q := 90 + 124 * j) (j := j) (len := 4) hc 5 d_An_write_25 (by decide) (by omega) (by decide) (by decide) rfl (by omega) (by decide) (ap_site hA hj) ?_
  refine fm_astore_n (lv' := [(3, .ref (90 + 124 * j)), (0, .ref 8), (1, .int (nI j)), (2, .int w)]) hc d_An_write_26 rfl (by decide) rfl ?_
  refine fm_aload_n hc d_An_write_27 rfl rfl ?_
  refine fm_getI (k := 1) hc K_Si d_An_write_28 q_334 rfl (by omega) (by omega) (ly_Si hj) (by decide) (by decide) rfl ?_
  refine fm_if_eq (tgt := 41) hc d_An_write_31 rfl (fun _ => ?_) (fun g => absurd hu g)
  exact fx_throw hc htr hex.2.2.2.2 (E := fx_ISE) (List.mem_of_getElem? (i := 1) rfl) fx_own_ISE q_552 q_553 q_18 d_An_write_41 d_An_write_44 d_An_write_45 d_An_write_48 htab (Nat.le_of_ble_eq_true rfl) (Nat.le_of_ble_eq_true rfl) ⟨Nat.le_of_ble_eq_true rfl, Nat.le_of_ble_eq_true rfl, Nat.le_of_ble_eq_true rfl, Nat.le_of_ble_eq_true rfl⟩ ⟨rfl, rfl, rfl⟩
theorem x_write_none {l : Launch} {b : Nat} {x : Nat → Nat} {D : va_G} {dA : Nat → ClassId} (htr : l.stackTraces = false) {j : Nat} {w : Int32} {n : Nat} {M : fm_M} (hj : j < 4) (hn : 586 ≤ n) (hA : fm_AP M) (hw : nI 1 ≤ w) (hu : ¬ M.1 (90 + 124 * j) 1 = 0) (hs : M.1 (90 + 124 * j) 2 = 0) : MetFree l y_An_write (headSpec (Cond.code y_An_write b_An_write 4 (some .int) :: fm_T0) ({ frames := 6, cells := 1, slots := 6, locals := 90 })) (fm_Pc fm_lay fm_nf fm_fk fm_cl b x D dA (fm_tys dA) (fm_EX b x) false [.ref 8, .int (nI j), .int w] n M) (fun _ _ _ _ _ => True) (fx_Q fm_lay fm_nf fm_fk fm_cl b x D dA (fun _ _ _ => False) (fun E n' M' => E = fx_ISE ∧ n' = n ∧ M' = M) 1 6) := by
  refine fx_enter (by decide) (Nat.le_of_ble_eq_true rfl) ?_
  intro p e s m args below meth c hc hr hnm hex htg htab
  refine fm_iload_n hc d_An_write_0 rfl rfl ?_
  refine fm_callS (av := [.int (nI j)]) (rest := []) (y := y_An_isHost) (bytes := b_An_isHost) hc fm_T0_good (fm_EX_st b x) hex q_397 q_1 q_395 q_396 pd_An_isHost (c_An_isHost_ok (in4_of hj)) ⟨rfl, rfl, Nat.le_of_ble_eq_true rfl, Nat.le_of_ble_eq_true rfl⟩ ⟨Nat.le_of_ble_eq_true rfl, Nat.le_of_ble_eq_true rfl⟩ d_An_write_1 (Nat.le_of_ble_eq_true rfl) (fun r n2 M2 hp => ?_)
  obtain ⟨rfl, rfl, rfl⟩ := hp
  refine fm_cnt (z' := (0, 0)) rfl (fm_st (st' := [.int (nI 1)]) rfl ?_)
  refine fm_if_eq (tgt := 12) hc d_An_write_4 rfl (fun g => absurd g (by decide)) (fun _ => ?_)
  refine fm_iload_n hc d_An_write_7 rfl rfl ?_
  refine fm_iconst (v := nI 1) hc d_An_write_8 rfl ?_
  refine fm_icmp_ge (tgt := 20) hc d_An_write_9 rfl (fun _ => ?_) (fun g => absurd hw g)
  refine fm_aload_n hc d_An_write_20 rfl rfl ?_
  refine fm_getR (k := 2) (q := 15) hc K_An d_An_write_21 q_357 rfl (by decide) (by omega) (by decide) (by decide) (by decide) rfl (ap_2 hA) ?_
  refine fm_iload_n hc d_An_write_24 rfl rfl ?_
  refine fm_aald (q := 90 + 124 * j) (j := j) (len := 4) hc 5 d_An_write_25 (by decide) (by omega) (by decide) (by decide) rfl (by omega) (by decide) (ap_site hA hj) ?_
  refine fm_astore_n (lv' := [(3, .ref (90 + 124 * j)), (0, .ref 8), (1, .int (nI j)), (2, .int w)]) hc d_An_write_26 rfl (by decide) rfl ?_
  refine fm_aload_n hc d_An_write_27 rfl rfl ?_
  refine fm_getI (k := 1) hc K_Si d_An_write_28 q_334 rfl (by omega) (by omega) (ly_Si hj) (by decide) (by decide) rfl ?_
  refine fm_if_eq (tgt := 41) hc d_An_write_31 rfl (fun g => absurd g hu) (fun _ => ?_)
  refine fm_aload_n hc d_An_write_34 rfl rfl ?_
  refine fm_getI (k := 2) hc K_Si d_An_write_35 q_336 rfl (by omega) (by omega) (ly_Si hj) (by decide) (by decide) rfl ?_
  refine fm_if_ne (tgt := 49) hc d_An_write_38 rfl (fun g => absurd hs g) (fun _ => ?_)
  exact fx_throw hc htr hex.2.2.2.2 (E := fx_ISE) (List.mem_of_getElem? (i := 1) rfl) fx_own_ISE q_552 q_553 q_18 d_An_write_41 d_An_write_44 d_An_write_45 d_An_write_48 htab (Nat.le_of_ble_eq_true rfl) (Nat.le_of_ble_eq_true rfl) ⟨Nat.le_of_ble_eq_true rfl, Nat.le_of_ble_eq_true rfl, Nat.le_of_ble_eq_true rfl, Nat.le_of_ble_eq_true rfl⟩ ⟨rfl, rfl, rfl⟩
theorem x_launch_down {l : Launch} {b : Nat} {x : Nat → Nat} {D : va_G} {dA : Nat → ClassId} (htr : l.stackTraces = false) {j : Nat} {w u : Int32} {n : Nat} {M : fm_M} (hj : j < 4) (hn : 586 ≤ n) (hA : fm_AP M) (hp : fm_in 4 w) (hw : ¬ u < nI 1 ∧ u ≤ nI 200) (hu : M.1 (90 + 124 * j) 1 = 0) : MetFree l y_An_launch (headSpec (Cond.code y_An_launch b_An_launch 6 (some .int) :: fm_T0) ({ frames := 6, cells := 1, slots := 6, locals := 90 })) (fm_Pc fm_lay fm_nf fm_fk fm_cl b x D dA (fm_tys dA) (fm_EX b x) false [.ref 8, .int (nI j), .int w, .int u] n M) (fun _ _ _ _ _ => True) (fx_Q fm_lay fm_nf fm_fk fm_cl b x D dA (fun _ _ _ => False) (fun E n' M' => E = fx_ISE ∧ n' = n ∧ M' = M) 1 6) := by
  refine fx_enter (by decide) (Nat.le_of_ble_eq_true rfl) ?_
  intro p e s m args below meth c hc hr hnm hex htg htab
  refine fm_iload_n hc d_An_launch_0 rfl rfl ?_
  refine fm_callS (av := [.int (nI j)]) (rest := []) (y := y_An_isHost) (bytes := b_An_isHost) hc fm_T0_good (fm_EX_st b x) hex q_397 q_1 q_395 q_396 pd_An_isHost (c_An_isHost_ok (in4_of hj)) ⟨rfl, rfl, Nat.le_of_ble_eq_true rfl, Nat.le_of_ble_eq_true rfl⟩ ⟨Nat.le_of_ble_eq_true rfl, Nat.le_of_ble_eq_true rfl⟩ d_An_launch_1 (Nat.le_of_ble_eq_true rfl) (fun r n2 M2 hp => ?_)
  obtain ⟨rfl, rfl, rfl⟩ := hp
  refine fm_cnt (z' := (0, 0)) rfl (fm_st (st' := [.int (nI 1)]) rfl ?_)
  refine fm_if_eq (tgt := 26) hc d_An_launch_4 rfl (fun g => absurd g (by decide)) (fun _ => ?_)
  refine fm_iload_n hc d_An_launch_7 rfl rfl ?_
  refine fm_callS (av := [.int w]) (rest := []) (y := y_An_isProgram) (bytes := b_An_isProgram) hc fm_T0_good (fm_EX_st b x) hex q_386 q_1 q_384 q_385 pd_An_isProgram (c_An_isProgram_ok hp) ⟨rfl, rfl, Nat.le_of_ble_eq_true rfl, Nat.le_of_ble_eq_true rfl⟩ ⟨Nat.le_of_ble_eq_true rfl, Nat.le_of_ble_eq_true rfl⟩ d_An_launch_8 (Nat.le_of_ble_eq_true rfl) (fun r n2 M2 hp => ?_)
  obtain ⟨rfl, rfl, rfl⟩ := hp
  refine fm_cnt (z' := (0, 0)) rfl (fm_st (st' := [.int (nI 1)]) rfl ?_)
  refine fm_if_eq (tgt := 26) hc d_An_launch_11 rfl (fun g => absurd g (by decide)) (fun _ => ?_)
  refine fm_iload_n hc d_An_launch_14 rfl rfl ?_
  refine fm_iconst (v := nI 1) hc d_An_launch_15 rfl ?_
  refine fm_icmp_lt (tgt := 26) hc d_An_launch_16 rfl (fun g => absurd g hw.1) (fun _ => ?_)
  refine fm_iload_n hc d_An_launch_19 rfl rfl ?_
  refine fm_sipush (v := nI 200) hc d_An_launch_20 rfl ?_
  refine fm_icmp_le (tgt := 34) hc d_An_launch_23 rfl (fun _ => ?_) (fun g => absurd hw.2 g)
  refine fm_aload_n hc d_An_launch_34 rfl rfl ?_
  refine fm_getR (k := 2) (q := 15) hc K_An d_An_launch_35 q_357 rfl (by decide) (by omega) (by decide) (by decide) (by decide) rfl (ap_2 hA) ?_
  refine fm_iload_n hc d_An_launch_38 rfl rfl ?_
  refine fm_aald (q := 90 + 124 * j) (j := j) (len := 4) hc 5 d_An_launch_39 (by decide) (by omega) (by decide) (by decide) rfl (by omega) (by decide) (ap_site hA hj) ?_
  refine fm_getI (k := 1) hc K_Si d_An_launch_40 q_334 rfl (by omega) (by omega) (ly_Si hj) (by decide) (by decide) rfl ?_
  refine fm_if_eq (tgt := 54) hc d_An_launch_43 rfl (fun _ => ?_) (fun g => absurd hu g)
  exact fx_throw hc htr hex.2.2.2.2 (E := fx_ISE) (List.mem_of_getElem? (i := 1) rfl) fx_own_ISE q_552 q_553 q_18 d_An_launch_54 d_An_launch_57 d_An_launch_58 d_An_launch_61 htab (Nat.le_of_ble_eq_true rfl) (Nat.le_of_ble_eq_true rfl) ⟨Nat.le_of_ble_eq_true rfl, Nat.le_of_ble_eq_true rfl, Nat.le_of_ble_eq_true rfl, Nat.le_of_ble_eq_true rfl⟩ ⟨rfl, rfl, rfl⟩
