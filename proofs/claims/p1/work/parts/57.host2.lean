theorem wi_017 {i : Nat} (h : i < 18) : fm_wi (nI i) (nI 0) (nI 17) := ⟨hnlt (by omega) (by omega), hnlt (a := 17) (c := i) (by omega) (by omega)⟩
theorem c_host_ok {l : Launch} {b : Nat} {x : Nat → Nat} {D : va_G} {dA : Nat → ClassId} {j : Nat} {w t : Int32} {n : Nat} {M : fm_M} (hn : 586 ≤ n) (hA : fm_AP M) (hj : j < 4) (hT : Met l y_Si_tell (Cond.code y_Si_tell b_Si_tell 2 (some .int) :: fm_T0) ({ frames := 0, cells := 0, slots := 0, locals := 0 }) (fm_Pc fm_lay fm_nf fm_fk fm_cl b x D dA (fm_tys dA) (fm_EX b x) false [.ref (90 + 124 * j), .int w] n M) (fm_Qc fm_lay fm_nf fm_fk fm_cl b x D dA (fun r n' M' => r = some (.int t) ∧ n' = n ∧ M' = M)) 0 0 (fm_A b)) : Met l y_An_host (Cond.code y_An_host b_An_host 3 (some .int) :: fm_T0) ({ frames := 1, cells := 0, slots := 0, locals := 21 }) (fm_Pc fm_lay fm_nf fm_fk fm_cl b x D dA (fm_tys dA) (fm_EX b x) false [.ref 8, .int (nI j), .int w] n M) (fm_Qc fm_lay fm_nf fm_fk fm_cl b x D dA (fun r n' M' => r = some (.int (t)) ∧ n' = n ∧ M' = M)) 0 0 (fm_A b) := by
  refine fm_enter (by decide) (Nat.le_of_ble_eq_true rfl) ?_
  intro p e s m args below meth c hc hr hnm hex htg
  refine fm_iload_n hc d_An_host_0 rfl rfl ?_
  refine fm_callS (av := [.int (nI j)]) (rest := []) (y := y_An_isHost) (bytes := b_An_isHost) hc fm_T0_good (fm_EX_st b x) hex q_397 q_1 q_395 q_396 pd_An_isHost (c_An_isHost_ok (in4_of hj)) ⟨rfl, rfl, Nat.le_of_ble_eq_true rfl, Nat.le_of_ble_eq_true rfl⟩ ⟨Nat.le_of_ble_eq_true rfl, Nat.le_of_ble_eq_true rfl⟩ d_An_host_1 (Nat.le_of_ble_eq_true rfl) (fun r n2 M2 hp => ?_)
  obtain ⟨rfl, hq1, hq2⟩ := hp
  replace hq1 := hq1.symm
  replace hq2 := hq2.symm
  subst hq1 hq2
  refine fm_cnt (z' := (0, 0)) rfl (fm_st (st' := [.int (nI 1)]) rfl ?_)
  refine fm_if_eq (tgt := 20) hc d_An_host_4 rfl (fun g => absurd g (by decide)) (fun _ => ?_)
  refine fm_aload_n hc d_An_host_7 rfl rfl ?_
  refine fm_getR (k := 2) (q := 15) hc K_An d_An_host_8 q_357 rfl (by decide) (by omega) (by decide) (by decide) (by decide) rfl (ap_2 hA) ?_
  refine fm_iload_n hc d_An_host_11 rfl rfl ?_
  refine fm_aald (q := 90 + 124 * j) (j := j) (len := 4) hc 5 d_An_host_12 (by decide) (by omega) (by decide) (by decide) rfl (by omega) (by decide) (ap_site hA hj) ?_
  refine fm_iload_n hc d_An_host_13 rfl rfl ?_
  refine fm_callV (av := [.int w]) (rest := []) (ob := 90 + 124 * j) (ci := 8) (r0 := ("AgentNet$Site", F_Si, 6)) (y := y_Si_tell) (bytes := b_Si_tell) hc fm_T0_good (fm_EX_st b x) hex q_436 q_10 q_433 q_434 q_435 pd_Si_tell (by omega) (by omega) (ly_Si hj) (by decide) rfl rfl (hT) ⟨rfl, rfl, Nat.le_of_ble_eq_true rfl, Nat.le_of_ble_eq_true rfl⟩ ⟨Nat.le_of_ble_eq_true rfl, Nat.le_of_ble_eq_true rfl⟩ d_An_host_14 (Nat.le_of_ble_eq_true rfl) (fun r n2 M2 hp => ?_)
  obtain ⟨rfl, hq1, hq2⟩ := hp
  replace hq1 := hq1.symm
  replace hq2 := hq2.symm
  subst hq1 hq2
  refine fm_cnt (z' := (0, 0)) rfl (fm_st (st' := [.int t]) rfl ?_)
  refine fm_goto (tgt := 21) hc d_An_host_17 rfl ?_
  exact fm_iret hc hr d_An_host_21 (Nat.le_refl _) (Nat.le_refl _) ⟨rfl, rfl, rfl⟩
theorem r_host_up0 {l : Launch} {b : Nat} {x : Nat → Nat} {D : va_G} {dA : Nat → ClassId} {j : Nat} {n : Nat} {M : fm_M} (hn : 629 ≤ n) (hR : fm_RP M) (hj : j < 4) (hu : M.1 595 j = 0) : Met l y_Mo_host (Cond.code y_Mo_host b_Mo_host 3 (some .int) :: fm_T0) ({ frames := 1, cells := 0, slots := 0, locals := 22 }) (fm_Pc fm_lay fm_nf fm_fk fm_cl b x D dA (fm_tys dA) (fm_EX b x) false [.ref 586, .int (nI j), .int (nI 0)] n M) (fm_Qc fm_lay fm_nf fm_fk fm_cl b x D dA (fun r n' M' => r = some (.int (nI 0)) ∧ n' = n ∧ M' = fm_put1 M 586 0 (nI 0))) 0 0 (fm_A b) := by
  refine fm_enter (by decide) (Nat.le_of_ble_eq_true rfl) ?_
  intro p e s m args below meth c hc hr hnm hex htg
  refine fm_aload_n hc d_Mo_host_0 rfl rfl ?_
  refine fm_iconst (v := nI 0) hc d_Mo_host_1 rfl ?_
  refine fm_putI (k := 0) (v := nI 0) hc K_Mo d_Mo_host_2 q_885 rfl (by decide) (by omega) (by decide) (by decide) (by decide) rfl rfl rfl rfl ?_
  refine fm_iload_n hc d_Mo_host_5 rfl rfl ?_
  refine fm_iconst (v := nI 0) hc d_Mo_host_6 rfl ?_
  refine fm_iconst (v := nI 3) hc d_Mo_host_7 rfl ?_
  refine fm_callS (av := [.int (nI j), .int (nI 0), .int (nI 3)]) (rest := []) (y := y_Mo_within) (bytes := b_Mo_within) hc fm_T0_good (fm_EX_st b x) hex q_1049 q_13 q_1047 q_1048 pd_Mo_within (c_Mo_within_ok (wi_of4 (in4_of hj))) ⟨rfl, rfl, Nat.le_of_ble_eq_true rfl, Nat.le_of_ble_eq_true rfl⟩ ⟨Nat.le_of_ble_eq_true rfl, Nat.le_of_ble_eq_true rfl⟩ d_Mo_host_8 (Nat.le_of_ble_eq_true rfl) (fun r n2 M2 hp => ?_)
  obtain ⟨rfl, hq1, hq2⟩ := hp
  replace hq1 := hq1.symm
  replace hq2 := hq2.symm
  subst hq1 hq2
  refine fm_cnt (z' := (0, 0)) rfl (fm_st (st' := [.int (nI 1)]) rfl ?_)
  refine fm_if_eq (tgt := 24) hc d_Mo_host_11 rfl (fun g => absurd g (by decide)) (fun _ => ?_)
  refine fm_iload_n hc d_Mo_host_14 rfl rfl ?_
  refine fm_iconst (v := nI 0) hc d_Mo_host_15 rfl ?_
  refine fm_bipush (v := nI 17) hc d_Mo_host_16 rfl ?_
  refine fm_callS (av := [.int (nI 0), .int (nI 0), .int (nI 17)]) (rest := []) (y := y_Mo_within) (bytes := b_Mo_within) hc fm_T0_good (fm_EX_st b x) hex q_1049 q_13 q_1047 q_1048 pd_Mo_within (c_Mo_within_ok (wi_017 (i := 0) (by omega))) ⟨rfl, rfl, Nat.le_of_ble_eq_true rfl, Nat.le_of_ble_eq_true rfl⟩ ⟨Nat.le_of_ble_eq_true rfl, Nat.le_of_ble_eq_true rfl⟩ d_Mo_host_18 (Nat.le_of_ble_eq_true rfl) (fun r n2 M2 hp => ?_)
  obtain ⟨rfl, hq1, hq2⟩ := hp
  replace hq1 := hq1.symm
  replace hq2 := hq2.symm
  subst hq1 hq2
  refine fm_cnt (z' := (0, 0)) rfl (fm_st (st' := [.int (nI 1)]) rfl ?_)
  refine fm_if_ne (tgt := 26) hc d_Mo_host_21 rfl (fun _ => ?_) (fun g => absurd g (by decide))
  refine fm_iload_n hc d_Mo_host_26 rfl rfl ?_
  refine fm_iconst (v := nI 2) hc d_Mo_host_27 rfl ?_
  refine fm_icmp_ge (tgt := 60) hc d_Mo_host_28 rfl (fun g => absurd g (by decide)) (fun _ => ?_)
  refine fm_iload_n hc d_Mo_host_31 rfl rfl ?_
  refine fm_iconst (v := nI 1) hc d_Mo_host_32 rfl ?_
  refine fm_icmp_ne (tgt := 45) hc d_Mo_host_33 rfl (fun _ => ?_) (fun g => absurd g (by decide))
  refine fm_aload_n hc d_Mo_host_45 rfl rfl ?_
  refine fm_getR (k := 10) (q := 595) hc K_Mo d_Mo_host_46 q_895 rfl (by decide) (by omega) (by decide) (by decide) (by decide) rfl (rp_up hR) ?_
  refine fm_iload_n hc d_Mo_host_49 rfl rfl ?_
  refine fm_zald (j := j) (len := 4) hc 1 d_Mo_host_50 (by decide) (by omega) (by decide) rfl (by omega) (by decide) ?_
  refine fm_if_eq (tgt := 58) hc d_Mo_host_51 rfl (fun _ => ?_) (fun g => absurd hu g)
  refine fm_iconst (v := nI 0) hc d_Mo_host_58 rfl ?_
  exact fm_iret hc hr d_Mo_host_59 (Nat.le_refl _) (Nat.le_refl _) ⟨rfl, rfl, rfl⟩
theorem r_host_up1 {l : Launch} {b : Nat} {x : Nat → Nat} {D : va_G} {dA : Nat → ClassId} {j : Nat} {n : Nat} {M : fm_M} (hn : 629 ≤ n) (hR : fm_RP M) (hj : j < 4) (hu : ¬ M.1 595 j = 0) : Met l y_Mo_host (Cond.code y_Mo_host b_Mo_host 3 (some .int) :: fm_T0) ({ frames := 1, cells := 0, slots := 0, locals := 22 }) (fm_Pc fm_lay fm_nf fm_fk fm_cl b x D dA (fm_tys dA) (fm_EX b x) false [.ref 586, .int (nI j), .int (nI 0)] n M) (fm_Qc fm_lay fm_nf fm_fk fm_cl b x D dA (fun r n' M' => r = some (.int (nI 1)) ∧ n' = n ∧ M' = fm_put1 M 586 0 (nI 0))) 0 0 (fm_A b) := by
  refine fm_enter (by decide) (Nat.le_of_ble_eq_true rfl) ?_
  intro p e s m args below meth c hc hr hnm hex htg
  refine fm_aload_n hc d_Mo_host_0 rfl rfl ?_
  refine fm_iconst (v := nI 0) hc d_Mo_host_1 rfl ?_
  refine fm_putI (k := 0) (v := nI 0) hc K_Mo d_Mo_host_2 q_885 rfl (by decide) (by omega) (by decide) (by decide) (by decide) rfl rfl rfl rfl ?_
  refine fm_iload_n hc d_Mo_host_5 rfl rfl ?_
  refine fm_iconst (v := nI 0) hc d_Mo_host_6 rfl ?_
  refine fm_iconst (v := nI 3) hc d_Mo_host_7 rfl ?_
  refine fm_callS (av := [.int (nI j), .int (nI 0), .int (nI 3)]) (rest := []) (y := y_Mo_within) (bytes := b_Mo_within) hc fm_T0_good (fm_EX_st b x) hex q_1049 q_13 q_1047 q_1048 pd_Mo_within (c_Mo_within_ok (wi_of4 (in4_of hj))) ⟨rfl, rfl, Nat.le_of_ble_eq_true rfl, Nat.le_of_ble_eq_true rfl⟩ ⟨Nat.le_of_ble_eq_true rfl, Nat.le_of_ble_eq_true rfl⟩ d_Mo_host_8 (Nat.le_of_ble_eq_true rfl) (fun r n2 M2 hp => ?_)
  obtain ⟨rfl, hq1, hq2⟩ := hp
  replace hq1 := hq1.symm
  replace hq2 := hq2.symm
  subst hq1 hq2
  refine fm_cnt (z' := (0, 0)) rfl (fm_st (st' := [.int (nI 1)]) rfl ?_)
  refine fm_if_eq (tgt := 24) hc d_Mo_host_11 rfl (fun g => absurd g (by decide)) (fun _ => ?_)
  refine fm_iload_n hc d_Mo_host_14 rfl rfl ?_
  refine fm_iconst (v := nI 0) hc d_Mo_host_15 rfl ?_
  refine fm_bipush (v := nI 17) hc d_Mo_host_16 rfl ?_
  refine fm_callS (av := [.int (nI 0), .int (nI 0), .int (nI 17)]) (rest := []) (y := y_Mo_within) (bytes := b_Mo_within) hc fm_T0_good (fm_EX_st b x) hex q_1049 q_13 q_1047 q_1048 pd_Mo_within (c_Mo_within_ok (wi_017 (i := 0) (by omega))) ⟨rfl, rfl, Nat.le_of_ble_eq_true rfl, Nat.le_of_ble_eq_true rfl⟩ ⟨Nat.le_of_ble_eq_true rfl, Nat.le_of_ble_eq_true rfl⟩ d_Mo_host_18 (Nat.le_of_ble_eq_true rfl) (fun r n2 M2 hp => ?_)
  obtain ⟨rfl, hq1, hq2⟩ := hp
  replace hq1 := hq1.symm
  replace hq2 := hq2.symm
  subst hq1 hq2
  refine fm_cnt (z' := (0, 0)) rfl (fm_st (st' := [.int (nI 1)]) rfl ?_)
  refine fm_if_ne (tgt := 26) hc d_Mo_host_21 rfl (fun _ => ?_) (fun g => absurd g (by decide))
  refine fm_iload_n hc d_Mo_host_26 rfl rfl ?_
  refine fm_iconst (v := nI 2) hc d_Mo_host_27 rfl ?_
  refine fm_icmp_ge (tgt := 60) hc d_Mo_host_28 rfl (fun g => absurd g (by decide)) (fun _ => ?_)
  refine fm_iload_n hc d_Mo_host_31 rfl rfl ?_
  refine fm_iconst (v := nI 1) hc d_Mo_host_32 rfl ?_
  refine fm_icmp_ne (tgt := 45) hc d_Mo_host_33 rfl (fun _ => ?_) (fun g => absurd g (by decide))
  refine fm_aload_n hc d_Mo_host_45 rfl rfl ?_
  refine fm_getR (k := 10) (q := 595) hc K_Mo d_Mo_host_46 q_895 rfl (by decide) (by omega) (by decide) (by decide) (by decide) rfl (rp_up hR) ?_
  refine fm_iload_n hc d_Mo_host_49 rfl rfl ?_
  refine fm_zald (j := j) (len := 4) hc 1 d_Mo_host_50 (by decide) (by omega) (by decide) rfl (by omega) (by decide) ?_
  refine fm_if_eq (tgt := 58) hc d_Mo_host_51 rfl (fun g => absurd g hu) (fun _ => ?_)
  refine fm_iconst (v := nI 1) hc d_Mo_host_54 rfl ?_
  refine fm_goto (tgt := 59) hc d_Mo_host_55 rfl ?_
  exact fm_iret hc hr d_Mo_host_59 (Nat.le_refl _) (Nat.le_refl _) ⟨rfl, rfl, rfl⟩
theorem r_host_left {l : Launch} {b : Nat} {x : Nat → Nat} {D : va_G} {dA : Nat → ClassId} {j : Nat} {n : Nat} {M : fm_M} (hn : 629 ≤ n) (hR : fm_RP M) (hj : j < 4) : Met l y_Mo_host (Cond.code y_Mo_host b_Mo_host 3 (some .int) :: fm_T0) ({ frames := 1, cells := 0, slots := 0, locals := 22 }) (fm_Pc fm_lay fm_nf fm_fk fm_cl b x D dA (fm_tys dA) (fm_EX b x) false [.ref 586, .int (nI j), .int (nI 1)] n M) (fm_Qc fm_lay fm_nf fm_fk fm_cl b x D dA (fun r n' M' => r = some (.int (M.1 596 j)) ∧ n' = n ∧ M' = fm_put1 M 586 0 (nI 0))) 0 0 (fm_A b) := by
  refine fm_enter (by decide) (Nat.le_of_ble_eq_true rfl) ?_
  intro p e s m args below meth c hc hr hnm hex htg
  refine fm_aload_n hc d_Mo_host_0 rfl rfl ?_
  refine fm_iconst (v := nI 0) hc d_Mo_host_1 rfl ?_
  refine fm_putI (k := 0) (v := nI 0) hc K_Mo d_Mo_host_2 q_885 rfl (by decide) (by omega) (by decide) (by decide) (by decide) rfl rfl rfl rfl ?_
  refine fm_iload_n hc d_Mo_host_5 rfl rfl ?_
  refine fm_iconst (v := nI 0) hc d_Mo_host_6 rfl ?_
  refine fm_iconst (v := nI 3) hc d_Mo_host_7 rfl ?_
  refine fm_callS (av := [.int (nI j), .int (nI 0), .int (nI 3)]) (rest := []) (y := y_Mo_within) (bytes := b_Mo_within) hc fm_T0_good (fm_EX_st b x) hex q_1049 q_13 q_1047 q_1048 pd_Mo_within (c_Mo_within_ok (wi_of4 (in4_of hj))) ⟨rfl, rfl, Nat.le_of_ble_eq_true rfl, Nat.le_of_ble_eq_true rfl⟩ ⟨Nat.le_of_ble_eq_true rfl, Nat.le_of_ble_eq_true rfl⟩ d_Mo_host_8 (Nat.le_of_ble_eq_true rfl) (fun r n2 M2 hp => ?_)
  obtain ⟨rfl, hq1, hq2⟩ := hp
  replace hq1 := hq1.symm
  replace hq2 := hq2.symm
  subst hq1 hq2
  refine fm_cnt (z' := (0, 0)) rfl (fm_st (st' := [.int (nI 1)]) rfl ?_)
  refine fm_if_eq (tgt := 24) hc d_Mo_host_11 rfl (fun g => absurd g (by decide)) (fun _ => ?_)
  refine fm_iload_n hc d_Mo_host_14 rfl rfl ?_
  refine fm_iconst (v := nI 0) hc d_Mo_host_15 rfl ?_
  refine fm_bipush (v := nI 17) hc d_Mo_host_16 rfl ?_
  refine fm_callS (av := [.int (nI 1), .int (nI 0), .int (nI 17)]) (rest := []) (y := y_Mo_within) (bytes := b_Mo_within) hc fm_T0_good (fm_EX_st b x) hex q_1049 q_13 q_1047 q_1048 pd_Mo_within (c_Mo_within_ok (wi_017 (i := 1) (by omega))) ⟨rfl, rfl, Nat.le_of_ble_eq_true rfl, Nat.le_of_ble_eq_true rfl⟩ ⟨Nat.le_of_ble_eq_true rfl, Nat.le_of_ble_eq_true rfl⟩ d_Mo_host_18 (Nat.le_of_ble_eq_true rfl) (fun r n2 M2 hp => ?_)
  obtain ⟨rfl, hq1, hq2⟩ := hp
  replace hq1 := hq1.symm
  replace hq2 := hq2.symm
  subst hq1 hq2
  refine fm_cnt (z' := (0, 0)) rfl (fm_st (st' := [.int (nI 1)]) rfl ?_)
  refine fm_if_ne (tgt := 26) hc d_Mo_host_21 rfl (fun _ => ?_) (fun g => absurd g (by decide))
  refine fm_iload_n hc d_Mo_host_26 rfl rfl ?_
  refine fm_iconst (v := nI 2) hc d_Mo_host_27 rfl ?_
  refine fm_icmp_ge (tgt := 60) hc d_Mo_host_28 rfl (fun g => absurd g (by decide)) (fun _ => ?_)
  refine fm_iload_n hc d_Mo_host_31 rfl rfl ?_
  refine fm_iconst (v := nI 1) hc d_Mo_host_32 rfl ?_
  refine fm_icmp_ne (tgt := 45) hc d_Mo_host_33 rfl (fun g => absurd rfl g) (fun _ => ?_)
  refine fm_aload_n hc d_Mo_host_36 rfl rfl ?_
  refine fm_getR (k := 11) (q := 596) hc K_Mo d_Mo_host_37 q_896 rfl (by decide) (by omega) (by decide) (by decide) (by decide) rfl (rp_left hR) ?_
  refine fm_iload_n hc d_Mo_host_40 rfl rfl ?_
  refine fm_iald (j := j) (len := 4) hc 0 d_Mo_host_41 (by decide) (by omega) (by decide) rfl (by omega) (by decide) ?_
  refine fm_goto (tgt := 59) hc d_Mo_host_42 rfl ?_
  exact fm_iret hc hr d_Mo_host_59 (Nat.le_refl _) (Nat.le_refl _) ⟨rfl, rfl, rfl⟩
theorem r_host_out {l : Launch} {b : Nat} {x : Nat → Nat} {D : va_G} {dA : Nat → ClassId} {j : Nat} {w : Int32} {n : Nat} {M : fm_M} (hn : 629 ≤ n) (hR : fm_RP M) (hj : j < 4) (hw : ¬ fm_wi w (nI 0) (nI 17)) : Met l y_Mo_host (Cond.code y_Mo_host b_Mo_host 3 (some .int) :: fm_T0) ({ frames := 1, cells := 0, slots := 0, locals := 22 }) (fm_Pc fm_lay fm_nf fm_fk fm_cl b x D dA (fm_tys dA) (fm_EX b x) false [.ref 586, .int (nI j), .int w] n M) (fm_Qc fm_lay fm_nf fm_fk fm_cl b x D dA (fun r n' M' => r = some (.int ((-1))) ∧ n' = n ∧ M' = fm_put1 M 586 0 (nI 0))) 0 0 (fm_A b) := by
  refine fm_enter (by decide) (Nat.le_of_ble_eq_true rfl) ?_
  intro p e s m args below meth c hc hr hnm hex htg
  refine fm_aload_n hc d_Mo_host_0 rfl rfl ?_
  refine fm_iconst (v := nI 0) hc d_Mo_host_1 rfl ?_
  refine fm_putI (k := 0) (v := nI 0) hc K_Mo d_Mo_host_2 q_885 rfl (by decide) (by omega) (by decide) (by decide) (by decide) rfl rfl rfl rfl ?_
  refine fm_iload_n hc d_Mo_host_5 rfl rfl ?_
  refine fm_iconst (v := nI 0) hc d_Mo_host_6 rfl ?_
  refine fm_iconst (v := nI 3) hc d_Mo_host_7 rfl ?_
  refine fm_callS (av := [.int (nI j), .int (nI 0), .int (nI 3)]) (rest := []) (y := y_Mo_within) (bytes := b_Mo_within) hc fm_T0_good (fm_EX_st b x) hex q_1049 q_13 q_1047 q_1048 pd_Mo_within (c_Mo_within_ok (wi_of4 (in4_of hj))) ⟨rfl, rfl, Nat.le_of_ble_eq_true rfl, Nat.le_of_ble_eq_true rfl⟩ ⟨Nat.le_of_ble_eq_true rfl, Nat.le_of_ble_eq_true rfl⟩ d_Mo_host_8 (Nat.le_of_ble_eq_true rfl) (fun r n2 M2 hp => ?_)
  obtain ⟨rfl, hq1, hq2⟩ := hp
  replace hq1 := hq1.symm
  replace hq2 := hq2.symm
  subst hq1 hq2
  refine fm_cnt (z' := (0, 0)) rfl (fm_st (st' := [.int (nI 1)]) rfl ?_)
  refine fm_if_eq (tgt := 24) hc d_Mo_host_11 rfl (fun g => absurd g (by decide)) (fun _ => ?_)
  refine fm_iload_n hc d_Mo_host_14 rfl rfl ?_
  refine fm_iconst (v := nI 0) hc d_Mo_host_15 rfl ?_
  refine fm_bipush (v := nI 17) hc d_Mo_host_16 rfl ?_
  refine fm_callS (av := [.int w, .int (nI 0), .int (nI 17)]) (rest := []) (y := y_Mo_within) (bytes := b_Mo_within) hc fm_T0_good (fm_EX_st b x) hex q_1049 q_13 q_1047 q_1048 pd_Mo_within (c_Mo_within_no hw) ⟨rfl, rfl, Nat.le_of_ble_eq_true rfl, Nat.le_of_ble_eq_true rfl⟩ ⟨Nat.le_of_ble_eq_true rfl, Nat.le_of_ble_eq_true rfl⟩ d_Mo_host_18 (Nat.le_of_ble_eq_true rfl) (fun r n2 M2 hp => ?_)
  obtain ⟨rfl, hq1, hq2⟩ := hp
  replace hq1 := hq1.symm
  replace hq2 := hq2.symm
  subst hq1 hq2
  refine fm_cnt (z' := (0, 0)) rfl (fm_st (st' := [.int (nI 0)]) rfl ?_)
  refine fm_if_ne (tgt := 26) hc d_Mo_host_21 rfl (fun g => absurd rfl g) (fun _ => ?_)
  refine fm_iconst (v := (-1)) hc d_Mo_host_24 rfl ?_
  exact fm_iret hc hr d_Mo_host_25 (Nat.le_refl _) (Nat.le_refl _) ⟨rfl, rfl, rfl⟩
theorem r_host_down {l : Launch} {b : Nat} {x : Nat → Nat} {D : va_G} {dA : Nat → ClassId} {j i : Nat} {n : Nat} {M : fm_M} (hn : 629 ≤ n) (hR : fm_RP M) (hj : j < 4) (hi : 2 ≤ i) (hi2 : i < 18) (hu : M.1 595 j = 0) : Met l y_Mo_host (Cond.code y_Mo_host b_Mo_host 3 (some .int) :: fm_T0) ({ frames := 1, cells := 0, slots := 0, locals := 22 }) (fm_Pc fm_lay fm_nf fm_fk fm_cl b x D dA (fm_tys dA) (fm_EX b x) false [.ref 586, .int (nI j), .int (nI i)] n M) (fm_Qc fm_lay fm_nf fm_fk fm_cl b x D dA (fun r n' M' => r = some (.int ((-1))) ∧ n' = n ∧ M' = fm_put1 M 586 0 (nI 0))) 0 0 (fm_A b) := by
  refine fm_enter (by decide) (Nat.le_of_ble_eq_true rfl) ?_
  intro p e s m args below meth c hc hr hnm hex htg
  refine fm_aload_n hc d_Mo_host_0 rfl rfl ?_
  refine fm_iconst (v := nI 0) hc d_Mo_host_1 rfl ?_
  refine fm_putI (k := 0) (v := nI 0) hc K_Mo d_Mo_host_2 q_885 rfl (by decide) (by omega) (by decide) (by decide) (by decide) rfl rfl rfl rfl ?_
  refine fm_iload_n hc d_Mo_host_5 rfl rfl ?_
  refine fm_iconst (v := nI 0) hc d_Mo_host_6 rfl ?_
  refine fm_iconst (v := nI 3) hc d_Mo_host_7 rfl ?_
  refine fm_callS (av := [.int (nI j), .int (nI 0), .int (nI 3)]) (rest := []) (y := y_Mo_within) (bytes := b_Mo_within) hc fm_T0_good (fm_EX_st b x) hex q_1049 q_13 q_1047 q_1048 pd_Mo_within (c_Mo_within_ok (wi_of4 (in4_of hj))) ⟨rfl, rfl, Nat.le_of_ble_eq_true rfl, Nat.le_of_ble_eq_true rfl⟩ ⟨Nat.le_of_ble_eq_true rfl, Nat.le_of_ble_eq_true rfl⟩ d_Mo_host_8 (Nat.le_of_ble_eq_true rfl) (fun r n2 M2 hp => ?_)
  obtain ⟨rfl, hq1, hq2⟩ := hp
  replace hq1 := hq1.symm
  replace hq2 := hq2.symm
  subst hq1 hq2
  refine fm_cnt (z' := (0, 0)) rfl (fm_st (st' := [.int (nI 1)]) rfl ?_)
  refine fm_if_eq (tgt := 24) hc d_Mo_host_11 rfl (fun g => absurd g (by decide)) (fun _ => ?_)
  refine fm_iload_n hc d_Mo_host_14 rfl rfl ?_
  refine fm_iconst (v := nI 0) hc d_Mo_host_15 rfl ?_
  refine fm_bipush (v := nI 17) hc d_Mo_host_16 rfl ?_
  refine fm_callS (av := [.int (nI i), .int (nI 0), .int (nI 17)]) (rest := []) (y := y_Mo_within) (bytes := b_Mo_within) hc fm_T0_good (fm_EX_st b x) hex q_1049 q_13 q_1047 q_1048 pd_Mo_within (c_Mo_within_ok (wi_017 (i := i) (by omega))) ⟨rfl, rfl, Nat.le_of_ble_eq_true rfl, Nat.le_of_ble_eq_true rfl⟩ ⟨Nat.le_of_ble_eq_true rfl, Nat.le_of_ble_eq_true rfl⟩ d_Mo_host_18 (Nat.le_of_ble_eq_true rfl) (fun r n2 M2 hp => ?_)
  obtain ⟨rfl, hq1, hq2⟩ := hp
  replace hq1 := hq1.symm
  replace hq2 := hq2.symm
  subst hq1 hq2
  refine fm_cnt (z' := (0, 0)) rfl (fm_st (st' := [.int (nI 1)]) rfl ?_)
  refine fm_if_ne (tgt := 26) hc d_Mo_host_21 rfl (fun _ => ?_) (fun g => absurd g (by decide))
  refine fm_iload_n hc d_Mo_host_26 rfl rfl ?_
  refine fm_iconst (v := nI 2) hc d_Mo_host_27 rfl ?_
  refine fm_icmp_ge (tgt := 60) hc d_Mo_host_28 rfl (fun _ => ?_) (fun g => absurd (nI_le (by omega) (by omega)) g)
  refine fm_aload_n hc d_Mo_host_60 rfl rfl ?_
  refine fm_getR (k := 10) (q := 595) hc K_Mo d_Mo_host_61 q_895 rfl (by decide) (by omega) (by decide) (by decide) (by decide) rfl (rp_up hR) ?_
  refine fm_iload_n hc d_Mo_host_64 rfl rfl ?_
  refine fm_zald (j := j) (len := 4) hc 1 d_Mo_host_65 (by decide) (by omega) (by decide) rfl (by omega) (by decide) ?_
  refine fm_if_ne (tgt := 73) hc d_Mo_host_66 rfl (fun g => absurd hu g) (fun _ => ?_)
  refine fm_iconst (v := (-1)) hc d_Mo_host_69 rfl ?_
  refine fm_goto (tgt := 109) hc d_Mo_host_70 rfl ?_
  exact fm_iret hc hr d_Mo_host_109 (Nat.le_refl _) (Nat.le_refl _) ⟨rfl, rfl, rfl⟩
theorem r_host_note {l : Launch} {b : Nat} {x : Nat → Nat} {D : va_G} {dA : Nat → ClassId} {j i : Nat} {n : Nat} {M : fm_M} (hn : 629 ≤ n) (hR : fm_RP M) (hj : j < 4) (hi : 2 ≤ i) (hi2 : i < 10) (hu : ¬ M.1 595 j = 0) : Met l y_Mo_host (Cond.code y_Mo_host b_Mo_host 3 (some .int) :: fm_T0) ({ frames := 1, cells := 0, slots := 0, locals := 22 }) (fm_Pc fm_lay fm_nf fm_fk fm_cl b x D dA (fm_tys dA) (fm_EX b x) false [.ref 586, .int (nI j), .int (nI i)] n M) (fm_Qc fm_lay fm_nf fm_fk fm_cl b x D dA (fun r n' M' => r = some (.int (M.1 601 (24 * j + i - 2))) ∧ n' = n ∧ M' = fm_put1 M 586 0 (nI 0))) 0 0 (fm_A b) := by
  refine fm_enter (by decide) (Nat.le_of_ble_eq_true rfl) ?_
  intro p e s m args below meth c hc hr hnm hex htg
  refine fm_aload_n hc d_Mo_host_0 rfl rfl ?_
  refine fm_iconst (v := nI 0) hc d_Mo_host_1 rfl ?_
  refine fm_putI (k := 0) (v := nI 0) hc K_Mo d_Mo_host_2 q_885 rfl (by decide) (by omega) (by decide) (by decide) (by decide) rfl rfl rfl rfl ?_
  refine fm_iload_n hc d_Mo_host_5 rfl rfl ?_
  refine fm_iconst (v := nI 0) hc d_Mo_host_6 rfl ?_
  refine fm_iconst (v := nI 3) hc d_Mo_host_7 rfl ?_
  refine fm_callS (av := [.int (nI j), .int (nI 0), .int (nI 3)]) (rest := []) (y := y_Mo_within) (bytes := b_Mo_within) hc fm_T0_good (fm_EX_st b x) hex q_1049 q_13 q_1047 q_1048 pd_Mo_within (c_Mo_within_ok (wi_of4 (in4_of hj))) ⟨rfl, rfl, Nat.le_of_ble_eq_true rfl, Nat.le_of_ble_eq_true rfl⟩ ⟨Nat.le_of_ble_eq_true rfl, Nat.le_of_ble_eq_true rfl⟩ d_Mo_host_8 (Nat.le_of_ble_eq_true rfl) (fun r n2 M2 hp => ?_)
  obtain ⟨rfl, hq1, hq2⟩ := hp
  replace hq1 := hq1.symm
  replace hq2 := hq2.symm
  subst hq1 hq2
  refine fm_cnt (z' := (0, 0)) rfl (fm_st (st' := [.int (nI 1)]) rfl ?_)
  refine fm_if_eq (tgt := 24) hc d_Mo_host_11 rfl (fun g => absurd g (by decide)) (fun _ => ?_)
  refine fm_iload_n hc d_Mo_host_14 rfl rfl ?_
  refine fm_iconst (v := nI 0) hc d_Mo_host_15 rfl ?_
  refine fm_bipush (v := nI 17) hc d_Mo_host_16 rfl ?_
  refine fm_callS (av := [.int (nI i), .int (nI 0), .int (nI 17)]) (rest := []) (y := y_Mo_within) (bytes := b_Mo_within) hc fm_T0_good (fm_EX_st b x) hex q_1049 q_13 q_1047 q_1048 pd_Mo_within (c_Mo_within_ok (wi_017 (i := i) (by omega))) ⟨rfl, rfl, Nat.le_of_ble_eq_true rfl, Nat.le_of_ble_eq_true rfl⟩ ⟨Nat.le_of_ble_eq_true rfl, Nat.le_of_ble_eq_true rfl⟩ d_Mo_host_18 (Nat.le_of_ble_eq_true rfl) (fun r n2 M2 hp => ?_)
  obtain ⟨rfl, hq1, hq2⟩ := hp
  replace hq1 := hq1.symm
  replace hq2 := hq2.symm
  subst hq1 hq2
  refine fm_cnt (z' := (0, 0)) rfl (fm_st (st' := [.int (nI 1)]) rfl ?_)
  refine fm_if_ne (tgt := 26) hc d_Mo_host_21 rfl (fun _ => ?_) (fun g => absurd g (by decide))
  refine fm_iload_n hc d_Mo_host_26 rfl rfl ?_
  refine fm_iconst (v := nI 2) hc d_Mo_host_27 rfl ?_
  refine fm_icmp_ge (tgt := 60) hc d_Mo_host_28 rfl (fun _ => ?_) (fun g => absurd (nI_le (by omega) (by omega)) g)
  refine fm_aload_n hc d_Mo_host_60 rfl rfl ?_
  refine fm_getR (k := 10) (q := 595) hc K_Mo d_Mo_host_61 q_895 rfl (by decide) (by omega) (by decide) (by decide) (by decide) rfl (rp_up hR) ?_
  refine fm_iload_n hc d_Mo_host_64 rfl rfl ?_
  refine fm_zald (j := j) (len := 4) hc 1 d_Mo_host_65 (by decide) (by omega) (by decide) rfl (by omega) (by decide) ?_
  refine fm_if_ne (tgt := 73) hc d_Mo_host_66 rfl (fun _ => ?_) (fun g => absurd g hu)
  refine fm_iload_n hc d_Mo_host_73 rfl rfl ?_
  refine fm_bipush (v := nI 10) hc d_Mo_host_74 rfl ?_
  refine fm_icmp_ge (tgt := 95) hc d_Mo_host_76 rfl (fun g => absurd g (hnle (a := 10) (c := i) (by omega) (by omega))) (fun _ => ?_)
  refine fm_aload_n hc d_Mo_host_79 rfl rfl ?_
  refine fm_getR (k := 16) (q := 601) hc K_Mo d_Mo_host_80 q_901 rfl (by decide) (by omega) (by decide) (by decide) (by decide) rfl (rp_note hR) ?_
  refine fm_bipush (v := nI 24) hc d_Mo_host_83 rfl ?_
  refine fm_iload_n hc d_Mo_host_85 rfl rfl ?_
  refine fm_imul hc d_Mo_host_86 ?_
  refine fm_top (congrArg Value.int (pk_mul 24 j)) ?_
  refine fm_iload_n hc d_Mo_host_87 rfl rfl ?_
  refine fm_iadd hc d_Mo_host_88 ?_
  refine fm_top (congrArg Value.int (nI_add (24 * j) i)) ?_
  refine fm_iconst (v := nI 2) hc d_Mo_host_89 rfl ?_
  refine fm_isub hc d_Mo_host_90 ?_
  refine fm_top (congrArg Value.int (pk_sub (a := (24 * j) + i) (b := 2) (by omega))) ?_
  refine fm_iald (j := ((24 * j) + i) - 2) (len := 96) hc 0 d_Mo_host_91 (by decide) (by omega) (by decide) rfl (by omega) (by decide) ?_
  refine fm_goto (tgt := 109) hc d_Mo_host_92 rfl ?_
  exact fm_iret hc hr d_Mo_host_109 (Nat.le_refl _) (Nat.le_refl _) ⟨rfl, rfl, rfl⟩
theorem r_host_known {l : Launch} {b : Nat} {x : Nat → Nat} {D : va_G} {dA : Nat → ClassId} {j i : Nat} {n : Nat} {M : fm_M} (hn : 629 ≤ n) (hR : fm_RP M) (hj : j < 4) (hi : 10 ≤ i) (hi2 : i < 18) (hu : ¬ M.1 595 j = 0) : Met l y_Mo_host (Cond.code y_Mo_host b_Mo_host 3 (some .int) :: fm_T0) ({ frames := 1, cells := 0, slots := 0, locals := 22 }) (fm_Pc fm_lay fm_nf fm_fk fm_cl b x D dA (fm_tys dA) (fm_EX b x) false [.ref 586, .int (nI j), .int (nI i)] n M) (fm_Qc fm_lay fm_nf fm_fk fm_cl b x D dA (fun r n' M' => r = some (.int (M.1 599 (24 * j + i - 10))) ∧ n' = n ∧ M' = fm_put1 M 586 0 (nI 0))) 0 0 (fm_A b) := by
  refine fm_enter (by decide) (Nat.le_of_ble_eq_true rfl) ?_
  intro p e s m args below meth c hc hr hnm hex htg
  refine fm_aload_n hc d_Mo_host_0 rfl rfl ?_
  refine fm_iconst (v := nI 0) hc d_Mo_host_1 rfl ?_
  refine fm_putI (k := 0) (v := nI 0) hc K_Mo d_Mo_host_2 q_885 rfl (by decide) (by omega) (by decide) (by decide) (by decide) rfl rfl rfl rfl ?_
  refine fm_iload_n hc d_Mo_host_5 rfl rfl ?_
  refine fm_iconst (v := nI 0) hc d_Mo_host_6 rfl ?_
  refine fm_iconst (v := nI 3) hc d_Mo_host_7 rfl ?_
  refine fm_callS (av := [.int (nI j), .int (nI 0), .int (nI 3)]) (rest := []) (y := y_Mo_within) (bytes := b_Mo_within) hc fm_T0_good (fm_EX_st b x) hex q_1049 q_13 q_1047 q_1048 pd_Mo_within (c_Mo_within_ok (wi_of4 (in4_of hj))) ⟨rfl, rfl, Nat.le_of_ble_eq_true rfl, Nat.le_of_ble_eq_true rfl⟩ ⟨Nat.le_of_ble_eq_true rfl, Nat.le_of_ble_eq_true rfl⟩ d_Mo_host_8 (Nat.le_of_ble_eq_true rfl) (fun r n2 M2 hp => ?_)
  obtain ⟨rfl, hq1, hq2⟩ := hp
  replace hq1 := hq1.symm
  replace hq2 := hq2.symm
  subst hq1 hq2
  refine fm_cnt (z' := (0, 0)) rfl (fm_st (st' := [.int (nI 1)]) rfl ?_)
  refine fm_if_eq (tgt := 24) hc d_Mo_host_11 rfl (fun g => absurd g (by decide)) (fun _ => ?_)
  refine fm_iload_n hc d_Mo_host_14 rfl rfl ?_
  refine fm_iconst (v := nI 0) hc d_Mo_host_15 rfl ?_
  refine fm_bipush (v := nI 17) hc d_Mo_host_16 rfl ?_
  refine fm_callS (av := [.int (nI i), .int (nI 0), .int (nI 17)]) (rest := []) (y := y_Mo_within) (bytes := b_Mo_within) hc fm_T0_good (fm_EX_st b x) hex q_1049 q_13 q_1047 q_1048 pd_Mo_within (c_Mo_within_ok (wi_017 (i := i) (by omega))) ⟨rfl, rfl, Nat.le_of_ble_eq_true rfl, Nat.le_of_ble_eq_true rfl⟩ ⟨Nat.le_of_ble_eq_true rfl, Nat.le_of_ble_eq_true rfl⟩ d_Mo_host_18 (Nat.le_of_ble_eq_true rfl) (fun r n2 M2 hp => ?_)
  obtain ⟨rfl, hq1, hq2⟩ := hp
  replace hq1 := hq1.symm
  replace hq2 := hq2.symm
  subst hq1 hq2
  refine fm_cnt (z' := (0, 0)) rfl (fm_st (st' := [.int (nI 1)]) rfl ?_)
  refine fm_if_ne (tgt := 26) hc d_Mo_host_21 rfl (fun _ => ?_) (fun g => absurd g (by decide))
  refine fm_iload_n hc d_Mo_host_26 rfl rfl ?_
  refine fm_iconst (v := nI 2) hc d_Mo_host_27 rfl ?_
  refine fm_icmp_ge (tgt := 60) hc d_Mo_host_28 rfl (fun _ => ?_) (fun g => absurd (nI_le (by omega) (by omega)) g)
  refine fm_aload_n hc d_Mo_host_60 rfl rfl ?_
  refine fm_getR (k := 10) (q := 595) hc K_Mo d_Mo_host_61 q_895 rfl (by decide) (by omega) (by decide) (by decide) (by decide) rfl (rp_up hR) ?_
  refine fm_iload_n hc d_Mo_host_64 rfl rfl ?_
  refine fm_zald (j := j) (len := 4) hc 1 d_Mo_host_65 (by decide) (by omega) (by decide) rfl (by omega) (by decide) ?_
  refine fm_if_ne (tgt := 73) hc d_Mo_host_66 rfl (fun _ => ?_) (fun g => absurd g hu)
  refine fm_iload_n hc d_Mo_host_73 rfl rfl ?_
  refine fm_bipush (v := nI 10) hc d_Mo_host_74 rfl ?_
  refine fm_icmp_ge (tgt := 95) hc d_Mo_host_76 rfl (fun _ => ?_) (fun g => absurd (nI_le (by omega) (by omega)) g)
  refine fm_aload_n hc d_Mo_host_95 rfl rfl ?_
  refine fm_getR (k := 14) (q := 599) hc K_Mo d_Mo_host_96 q_899 rfl (by decide) (by omega) (by decide) (by decide) (by decide) rfl (rp_known hR) ?_
  refine fm_bipush (v := nI 24) hc d_Mo_host_99 rfl ?_
  refine fm_iload_n hc d_Mo_host_101 rfl rfl ?_
  refine fm_imul hc d_Mo_host_102 ?_
  refine fm_top (congrArg Value.int (pk_mul 24 j)) ?_
  refine fm_iload_n hc d_Mo_host_103 rfl rfl ?_
  refine fm_iadd hc d_Mo_host_104 ?_
  refine fm_top (congrArg Value.int (nI_add (24 * j) i)) ?_
  refine fm_bipush (v := nI 10) hc d_Mo_host_105 rfl ?_
  refine fm_isub hc d_Mo_host_107 ?_
  refine fm_top (congrArg Value.int (pk_sub (a := (24 * j) + i) (b := 10) (by omega))) ?_
  refine fm_iald (j := ((24 * j) + i) - 10) (len := 96) hc 0 d_Mo_host_108 (by decide) (by omega) (by decide) rfl (by omega) (by decide) ?_
  exact fm_iret hc hr d_Mo_host_109 (Nat.le_refl _) (Nat.le_refl _) ⟨rfl, rfl, rfl⟩
