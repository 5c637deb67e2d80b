/-! crash on both sides -/
theorem c_goDown {l : Launch} {b : Nat} {x : Nat → Nat} {D : va_G} {dA : Nat → ClassId} {j n : Nat} {M : fm_M} (hn : 586 ≤ n) (hj : j < 4) : Met l y_Si_goDown (Cond.code y_Si_goDown b_Si_goDown 1 none :: fm_T0) ({ frames := 0, cells := 0, slots := 0, locals := 0 }) (fm_Pc fm_lay fm_nf fm_fk fm_cl b x D dA (fm_tys dA) (fm_EX b x) false [.ref (90 + 124 * j)] n M) (fm_Qc fm_lay fm_nf fm_fk fm_cl b x D dA (fun r n' M' => r = none ∧ n' = n ∧ M' = fm_put1 (fm_put1 M (90 + 124 * j) 1 (nI 0)) (90 + 124 * j) 2 (nI 0))) 0 0 (fm_A b) := by
  refine fm_enter (by decide) (Nat.le_of_ble_eq_true rfl) ?_
  intro p e s m args below meth c hc hr hnm hex htg
  refine fm_aload_n hc d_Si_goDown_0 rfl rfl ?_
  refine fm_iconst (v := nI 0) hc d_Si_goDown_1 rfl ?_
  refine fm_putI (k := 1) (v := nI 0) hc K_Si d_Si_goDown_2 q_333 rfl (by omega) (by omega) (ly_Si hj) (by decide) (by decide) rfl rfl rfl rfl ?_
  refine fm_aload_n hc d_Si_goDown_5 rfl rfl ?_
  refine fm_iconst (v := nI 0) hc d_Si_goDown_6 rfl ?_
  refine fm_putI (k := 2) (v := nI 0) hc K_Si d_Si_goDown_7 q_335 rfl (by omega) (by omega) (ly_Si hj) (by decide) (by decide) rfl rfl rfl rfl ?_
  exact fm_vret hc hr d_Si_goDown_10 (Nat.le_refl _) (Nat.le_refl _) ⟨rfl, rfl, rfl⟩
theorem x_crash_go {l : Launch} {b : Nat} {x : Nat → Nat} {D : va_G} {dA : Nat → ClassId} (htr : l.stackTraces = false) {j : Nat} {n : Nat} {M : fm_M} (hj : j < 4) (hn : 586 ≤ n) (hA : fm_AP M) (hu : ¬ M.1 (90 + 124 * j) 1 = 0) : MetFree l y_An_crash (headSpec (Cond.code y_An_crash b_An_crash 2 (some .boolean) :: fm_T0) ({ frames := 6, cells := 1, slots := 6, locals := 90 })) (fm_Pc fm_lay fm_nf fm_fk fm_cl b x D dA (fm_tys dA) (fm_EX b x) false [.ref 8, .int (nI j)] n M) (fun _ _ _ _ _ => True) (fx_Q fm_lay fm_nf fm_fk fm_cl b x D dA (fun r n' M' => r = some (.int (nI 1)) ∧ n' = n ∧ M' = fm_put1 (fm_put1 M (90 + 124 * j) 1 (nI 0)) (90 + 124 * j) 2 (nI 0)) (fun _ _ _ => False) 1 6) := by
  refine fx_enter (by decide) (Nat.le_of_ble_eq_true rfl) ?_
  intro p e s m args below meth c hc hr hnm hex htg htab
  refine fm_iload_n hc d_An_crash_0 rfl rfl ?_
  refine fm_callS (av := [.int (nI j)]) (rest := []) (y := y_An_isHost) (bytes := b_An_isHost) hc fm_T0_good (fm_EX_st b x) hex q_397 q_1 q_395 q_396 pd_An_isHost (c_An_isHost_ok (in4_of hj)) ⟨rfl, rfl, Nat.le_of_ble_eq_true rfl, Nat.le_of_ble_eq_true rfl⟩ ⟨Nat.le_of_ble_eq_true rfl, Nat.le_of_ble_eq_true rfl⟩ d_An_crash_1 (Nat.le_of_ble_eq_true rfl) (fun r n2 M2 hp => ?_)
  obtain ⟨rfl, rfl, rfl⟩ := hp
  refine fm_cnt (z' := (0, 0)) rfl (fm_st (st' := [.int (nI 1)]) rfl ?_)
  refine fm_if_ne (tgt := 15) hc d_An_crash_4 rfl (fun _ => ?_) (fun g => absurd g (by decide))
  refine fm_aload_n hc d_An_crash_15 rfl rfl ?_
  refine fm_getR (k := 2) (q := 15) hc K_An d_An_crash_16 q_357 rfl (by decide) (by omega) (by decide) (by decide) (by decide) rfl (ap_2 hA) ?_
  refine fm_iload_n hc d_An_crash_19 rfl rfl ?_
  refine fm_aald (q := 90 + 124 * j) (j := j) (len := 4) hc 5 d_An_crash_20 (by decide) (by omega) (by decide) (by decide) rfl (by omega) (by decide) (ap_site hA hj) ?_
  refine fm_getI (k := 1) hc K_Si d_An_crash_21 q_334 rfl (by omega) (by omega) (ly_Si hj) (by decide) (by decide) rfl ?_
  refine fm_if_ne (tgt := 29) hc d_An_crash_24 rfl (fun _ => ?_) (fun g => absurd g hu)
  refine fm_aload_n hc d_An_crash_29 rfl rfl ?_
  refine fm_getR (k := 2) (q := 15) hc K_An d_An_crash_30 q_357 rfl (by decide) (by omega) (by decide) (by decide) (by decide) rfl (ap_2 hA) ?_
  refine fm_iload_n hc d_An_crash_33 rfl rfl ?_
  refine fm_aald (q := 90 + 124 * j) (j := j) (len := 4) hc 5 d_An_crash_34 (by decide) (by omega) (by decide) (by decide) rfl (by omega) (by decide) (ap_site hA hj) ?_
  refine fm_callV (av := []) (rest := []) (ob := 90 + 124 * j) (ci := 8) (r0 := ("AgentNet$Site", F_Si, 6)) (y := y_Si_goDown) (bytes := b_Si_goDown) hc fm_T0_good (fm_EX_st b x) hex q_807 q_10 q_804 q_805 q_806 pd_Si_goDown (by omega) (by omega) (ly_Si hj) (by decide) rfl rfl (c_goDown hn hj) ⟨rfl, rfl, Nat.le_of_ble_eq_true rfl, Nat.le_of_ble_eq_true rfl⟩ ⟨Nat.le_of_ble_eq_true rfl, Nat.le_of_ble_eq_true rfl⟩ d_An_crash_35 (Nat.le_of_ble_eq_true rfl) (fun r n2 M2 hp => ?_)
  obtain ⟨rfl, hq1, hq2⟩ := hp
  replace hq1 := hq1.symm
  replace hq2 := hq2.symm
  subst hq1 hq2
  refine fm_cnt (z' := (0, 0)) rfl (fm_st (st' := []) rfl ?_)
  refine fm_iconst (v := nI 1) hc d_An_crash_38 rfl ?_
  exact fx_ret (fm_zret (ty := .boolean) hc hr (by first | rfl | decide) d_An_crash_39 (Nat.le_of_ble_eq_true rfl) (Nat.le_of_ble_eq_true rfl) ⟨rfl, rfl, rfl⟩)
theorem r_crash_go {l : Launch} {b : Nat} {x : Nat → Nat} {D : va_G} {dA : Nat → ClassId} {j : Nat} {n : Nat} {M : fm_M} (hn : 629 ≤ n) (hR : fm_RP M) (hj : j < 4) (hu : ¬ M.1 595 j = 0) : Met l y_Mo_crash (Cond.code y_Mo_crash b_Mo_crash 2 (some .boolean) :: fm_T0) ({ frames := 1, cells := 0, slots := 0, locals := 22 }) (fm_Pc fm_lay fm_nf fm_fk fm_cl b x D dA (fm_tys dA) (fm_EX b x) false [.ref 586, .int (nI j)] n M) (fm_Qc fm_lay fm_nf fm_fk fm_cl b x D dA (fun r n' M' => r = some (.int (nI 1)) ∧ n' = n ∧ M' = m_fgt (fm_put1 (fm_put1 (fm_put1 M 586 0 (nI 0)) 595 j (vp_nar .boolean (nI 0))) 596 j (nI 0)) (8 * (3 * j)) 8)) 0 0 (fm_A b) := by
  refine fm_enter (by decide) (Nat.le_of_ble_eq_true rfl) ?_
  intro p e s m args below meth c hc hr hnm hex htg
  refine fm_aload_n hc d_Mo_crash_0 rfl rfl ?_
  refine fm_iload_n hc d_Mo_crash_1 rfl rfl ?_
  refine fm_iconst (v := nI 0) hc d_Mo_crash_2 rfl ?_
  refine fm_iconst (v := nI 3) hc d_Mo_crash_3 rfl ?_
  refine fm_callS (av := [.int (nI j), .int (nI 0), .int (nI 3)]) (rest := [.ref 586]) (y := y_Mo_within) (bytes := b_Mo_within) hc fm_T0_good (fm_EX_st b x) hex q_1049 q_13 q_1047 q_1048 pd_Mo_within (c_Mo_within_ok (wi_of4 (in4_of hj))) ⟨rfl, rfl, Nat.le_of_ble_eq_true rfl, Nat.le_of_ble_eq_true rfl⟩ ⟨Nat.le_of_ble_eq_true rfl, Nat.le_of_ble_eq_true rfl⟩ d_Mo_crash_4 (Nat.le_of_ble_eq_true rfl) (fun r n2 M2 hp => ?_)
  obtain ⟨rfl, hq1, hq2⟩ := hp
  replace hq1 := hq1.symm
  replace hq2 := hq2.symm
  subst hq1 hq2
  refine fm_cnt (z' := (0, 0)) rfl (fm_st (st' := [.int (nI 1), .ref 586]) rfl ?_)
  refine fm_if_eq (tgt := 14) hc d_Mo_crash_7 rfl (fun g => absurd g (by decide)) (fun _ => ?_)
  refine fm_iconst (v := nI 0) hc d_Mo_crash_10 rfl ?_
  refine fm_goto (tgt := 15) hc d_Mo_crash_11 rfl ?_
  refine fm_putI (k := 0) (v := nI 0) hc K_Mo d_Mo_crash_15 q_885 rfl (by decide) (by omega) (by decide) (by decide) (by decide) rfl rfl rfl rfl ?_
  refine fm_aload_n hc d_Mo_crash_18 rfl rfl ?_
  refine fm_getI (k := 0) hc K_Mo d_Mo_crash_19 q_885 rfl (by decide) (by omega) (by decide) (by decide) (by decide) rfl ?_
  refine fm_top (congrArg Value.int (p1_same _ 586 0 (nI 0))) ?_
  refine fm_if_gt (tgt := 34) hc d_Mo_crash_22 rfl (fun g => absurd g (by decide)) (fun _ => ?_)
  refine fm_aload_n hc d_Mo_crash_25 rfl rfl ?_
  refine fm_getR (k := 10) (q := 595) hc K_Mo d_Mo_crash_26 q_895 rfl (by decide) (by omega) (by decide) (by decide) (by decide) rfl (rp_up hR) ?_
  refine fm_iload_n hc d_Mo_crash_29 rfl rfl ?_
  refine fm_zald (j := j) (len := 4) hc 1 d_Mo_crash_30 (by decide) (by omega) (by decide) rfl (by omega) (by decide) ?_
  refine fm_if_ne (tgt := 36) hc d_Mo_crash_31 rfl (fun _ => ?_) (fun g => absurd g hu)
  refine fm_aload_n hc d_Mo_crash_36 rfl rfl ?_
  refine fm_getR (k := 10) (q := 595) hc K_Mo d_Mo_crash_37 q_895 rfl (by decide) (by omega) (by decide) (by decide) (by decide) rfl (rp_up hR) ?_
  refine fm_iload_n hc d_Mo_crash_40 rfl rfl ?_
  refine fm_iconst (v := nI 0) hc d_Mo_crash_41 rfl ?_
  refine fm_zast (j := j) (len := 4) (v := nI 0) hc 1 d_Mo_crash_42 (by decide) (by omega) (by decide) rfl (by omega) (by decide) ?_
  refine fm_aload_n hc d_Mo_crash_43 rfl rfl ?_
  refine fm_getR (k := 11) (q := 596) hc K_Mo d_Mo_crash_44 q_896 rfl (by decide) (by omega) (by decide) (by decide) (by decide) rfl (rp_left hR) ?_
  refine fm_iload_n hc d_Mo_crash_47 rfl rfl ?_
  refine fm_iconst (v := nI 0) hc d_Mo_crash_48 rfl ?_
  refine fm_iast (j := j) (len := 4) (v := nI 0) hc 0 d_Mo_crash_49 (by decide) (by omega) (by decide) rfl (by omega) (by decide) ?_
  refine fm_aload_n hc d_Mo_crash_50 rfl rfl ?_
  refine fm_iconst (v := nI 3) hc d_Mo_crash_51 rfl ?_
  refine fm_iload_n hc d_Mo_crash_52 rfl rfl ?_
  refine fm_imul hc d_Mo_crash_53 ?_
  refine fm_top (congrArg Value.int (pk_mul 3 j)) ?_
  refine fm_callV (av := [.int (nI (3 * j))]) (rest := []) (ob := 586) (ci := 11) (r0 := ("AgentNetModel", F_Mo, 51)) (y := y_Mo_forget) (bytes := b_Mo_forget) hc fm_T0_good (fm_EX_st b x) hex q_884 q_13 q_881 q_883 qs_Mo_forget pd_Mo_forget (by decide) (by omega) (by decide) (by decide) rfl rfl (c_Mo_forget (k := 3 * j) hn (by omega) hR) ⟨rfl, rfl, Nat.le_of_ble_eq_true rfl, Nat.le_of_ble_eq_true rfl⟩ ⟨Nat.le_of_ble_eq_true rfl, Nat.le_of_ble_eq_true rfl⟩ d_Mo_crash_54 (Nat.le_of_ble_eq_true rfl) (fun r n2 M2 hp => ?_)
  obtain ⟨rfl, hq1, hq2⟩ := hp
  replace hq1 := hq1.symm
  replace hq2 := hq2.symm
  subst hq1 hq2
  refine fm_cnt (z' := (0, 0)) rfl (fm_st (st' := []) rfl ?_)
  refine fm_iconst (v := nI 1) hc d_Mo_crash_57 rfl ?_
  exact fm_zret (ty := .boolean) hc hr (by first | rfl | decide) d_Mo_crash_58 (Nat.le_refl _) (Nat.le_refl _) ⟨rfl, rfl, rfl⟩
