/-! THE REFERENCE: compute, compare, put, newPair -/
theorem p1_p2 (M : fm_M) (o k q j : Nat) (v : Int32) (w : Int64) : fm_put1 (fm_put2 M q j w) o k v = fm_put2 (fm_put1 M o k v) q j w := rfl
theorem rc_comp_2 {l : Launch} {b : Nat} {x : Nat → Nat} {D : va_G} {dA : Nat → ClassId} {gi d : Nat} {v a : Int32}  {n : Nat} {M : fm_M} (hn : 629 ≤ n) (hR : fm_RP M) (hg : gi < 98) (hd : M.1 612 gi = nI d) (hd6 : d ≤ 6) (hd2 : 2 ≤ d) (hu : M.2.1 613 (6 * gi + (d - 1)) = v.toInt64) (hl : M.2.1 613 (6 * gi + (d - 1 - 1)) = a.toInt64) : Met l y_Mo_compute (Cond.code y_Mo_compute b_Mo_compute 5 none :: fm_T0) ({ frames := 1, cells := 0, slots := 0, locals := 30 }) (fm_Pc fm_lay fm_nf fm_fk fm_cl b x D dA (fm_tys dA) (fm_EX b x) false [.ref 586, .int (nI gi), .int (nI 2)] n M) (fm_Qc fm_lay fm_nf fm_fk fm_cl b x D dA (fun r n' M' => r = none ∧ n' = n ∧ M' = fm_put1 (fm_put2 (fm_put1 (fm_put1 M 612 gi (nI (d - 1))) 612 gi (nI (d - 1 - 1))) 613 (6 * gi + (d - 1 - 1)) ((a + v).toInt64)) 612 gi (nI (d - 1 - 1 + 1)))) 0 0 (fm_A b) := by
  refine fm_enter (by decide) (Nat.le_of_ble_eq_true rfl) ?_
  intro p e s m args below meth c9 hc hr hnm hex htg
  refine fm_aload_n hc d_Mo_compute_0 rfl rfl ?_
  refine fm_iload_n hc d_Mo_compute_1 rfl rfl ?_
  refine fm_callV (av := [.int (nI gi)]) (rest := []) (ob := 586) (ci := 11) (r0 := ("AgentNetModel", F_Mo, 51)) (y := y_Mo_pop) (bytes := b_Mo_pop) hc fm_T0_good (fm_EX_st b x) hex q_1129 q_13 q_1126 q_1128 qs_Mo_pop pd_Mo_pop (by decide) (by omega) (by decide) (by decide) rfl rfl (rc_pop hn hR hg hd hd6 (by omega)) ⟨rfl, rfl, Nat.le_of_ble_eq_true rfl, Nat.le_of_ble_eq_true rfl⟩ ⟨Nat.le_of_ble_eq_true rfl, Nat.le_of_ble_eq_true rfl⟩ d_Mo_compute_2 (Nat.le_of_ble_eq_true rfl) (fun r n2 M2 hp => ?_)
  obtain ⟨rfl, hq1, hq2⟩ := hp
  replace hq1 := hq1.symm
  replace hq2 := hq2.symm
  subst hq1 hq2
  refine fm_cnt (z' := (0, 0)) rfl (fm_st (st' := [.long (M.2.1 613 (6 * gi + (d - 1)))]) rfl ?_)
  refine fm_l2i hc d_Mo_compute_5 ?_
  refine fm_top (congrArg Value.int (show (M.2.1 613 (6 * gi + (d - 1))).toInt32 = v by rw [hu]; exact vx_low v)) ?_
  refine fm_istore_n (lv' := [(3, .int v), (0, .ref 586), (1, .int (nI gi)), (2, .int (nI 2))]) hc d_Mo_compute_6 rfl (by decide) rfl ?_
  refine fm_aload_n hc d_Mo_compute_7 rfl rfl ?_
  refine fm_iload_n hc d_Mo_compute_8 rfl rfl ?_
  refine fm_callV (av := [.int (nI gi)]) (rest := []) (ob := 586) (ci := 11) (r0 := ("AgentNetModel", F_Mo, 51)) (y := y_Mo_pop) (bytes := b_Mo_pop) hc fm_T0_good (fm_EX_st b x) hex q_1129 q_13 q_1126 q_1128 qs_Mo_pop pd_Mo_pop (by decide) (by omega) (by decide) (by decide) rfl rfl (rc_pop (M := fm_put1 M 612 gi (nI (d - 1))) (d := d - 1) hn hR hg (p1_same _ _ _ _) (by omega) (by omega)) ⟨rfl, rfl, Nat.le_of_ble_eq_true rfl, Nat.le_of_ble_eq_true rfl⟩ ⟨Nat.le_of_ble_eq_true rfl, Nat.le_of_ble_eq_true rfl⟩ d_Mo_compute_9 (Nat.le_of_ble_eq_true rfl) (fun r n2 M2 hp => ?_)
  obtain ⟨rfl, hq1, hq2⟩ := hp
  replace hq1 := hq1.symm
  replace hq2 := hq2.symm
  subst hq1 hq2
  refine fm_cnt (z' := (0, 0)) rfl (fm_st (st' := [.long ((fm_put1 M 612 gi (nI (d - 1))).2.1 613 (6 * gi + (d - 1 - 1)))]) rfl ?_)
  refine fm_l2i hc d_Mo_compute_12 ?_
  refine fm_top (congrArg Value.int (show (M.2.1 613 (6 * gi + (d - 1 - 1))).toInt32 = a by rw [hl]; exact vx_low a)) ?_
  refine fm_istore (lv' := [(4, .int a), (3, .int v), (0, .ref 586), (1, .int (nI gi)), (2, .int (nI 2))]) hc d_Mo_compute_13 (by decide) rfl ?_
  refine fm_aload_n hc d_Mo_compute_15 rfl rfl ?_
  refine fm_iload_n hc d_Mo_compute_16 rfl rfl ?_
  refine fm_iload_n hc d_Mo_compute_17 rfl rfl ?_
  refine fm_iconst (v := nI 2) hc d_Mo_compute_18 rfl ?_
  refine fm_icmp_ne (tgt := 30) hc d_Mo_compute_19 rfl (fun g => absurd (by decide) g) (fun _ => ?_)
  refine fm_iload hc d_Mo_compute_22 rfl ?_
  refine fm_iload_n hc d_Mo_compute_24 rfl rfl ?_
  refine fm_iadd hc d_Mo_compute_25 ?_
  refine fm_i2l hc d_Mo_compute_26 ?_
  refine fm_goto (tgt := 48) hc d_Mo_compute_27 rfl ?_
  refine fm_callV (av := [.int (nI gi), .long ((a + v).toInt64)]) (rest := []) (ob := 586) (ci := 11) (r0 := ("AgentNetModel", F_Mo, 51)) (y := y_Mo_push) (bytes := b_Mo_push) hc fm_T0_good (fm_EX_st b x) hex q_1121 q_13 q_1118 q_1120 qs_Mo_push pd_Mo_push (by decide) (by omega) (by decide) (by decide) rfl rfl (rc_push (M := fm_put1 (fm_put1 M 612 gi (nI (d - 1))) 612 gi (nI (d - 1 - 1))) (d := d - 1 - 1) hn hR hg (p1_same _ _ _ _) (by omega)) ⟨rfl, rfl, Nat.le_of_ble_eq_true rfl, Nat.le_of_ble_eq_true rfl⟩ ⟨Nat.le_of_ble_eq_true rfl, Nat.le_of_ble_eq_true rfl⟩ d_Mo_compute_48 (Nat.le_of_ble_eq_true rfl) (fun r n2 M2 hp => ?_)
  obtain ⟨rfl, hq1, hq2⟩ := hp
  replace hq1 := hq1.symm
  replace hq2 := hq2.symm
  subst hq1 hq2
  refine fm_cnt (z' := (0, 0)) rfl (fm_st (st' := []) rfl ?_)
  exact fm_vret hc hr d_Mo_compute_51 (Nat.le_refl _) (Nat.le_refl _) ⟨rfl, rfl, rfl⟩
theorem rc_comp_3 {l : Launch} {b : Nat} {x : Nat → Nat} {D : va_G} {dA : Nat → ClassId} {gi d : Nat} {v a : Int32}  {n : Nat} {M : fm_M} (hn : 629 ≤ n) (hR : fm_RP M) (hg : gi < 98) (hd : M.1 612 gi = nI d) (hd6 : d ≤ 6) (hd2 : 2 ≤ d) (hu : M.2.1 613 (6 * gi + (d - 1)) = v.toInt64) (hl : M.2.1 613 (6 * gi + (d - 1 - 1)) = a.toInt64) : Met l y_Mo_compute (Cond.code y_Mo_compute b_Mo_compute 5 none :: fm_T0) ({ frames := 1, cells := 0, slots := 0, locals := 30 }) (fm_Pc fm_lay fm_nf fm_fk fm_cl b x D dA (fm_tys dA) (fm_EX b x) false [.ref 586, .int (nI gi), .int (nI 3)] n M) (fm_Qc fm_lay fm_nf fm_fk fm_cl b x D dA (fun r n' M' => r = none ∧ n' = n ∧ M' = fm_put1 (fm_put2 (fm_put1 (fm_put1 M 612 gi (nI (d - 1))) 612 gi (nI (d - 1 - 1))) 613 (6 * gi + (d - 1 - 1)) ((a - v).toInt64)) 612 gi (nI (d - 1 - 1 + 1)))) 0 0 (fm_A b) := by
  refine fm_enter (by decide) (Nat.le_of_ble_eq_true rfl) ?_
  intro p e s m args below meth c9 hc hr hnm hex htg
  refine fm_aload_n hc d_Mo_compute_0 rfl rfl ?_
  refine fm_iload_n hc d_Mo_compute_1 rfl rfl ?_
  refine fm_callV (av := [.int (nI gi)]) (rest := []) (ob := 586) (ci := 11) (r0 := ("AgentNetModel", F_Mo, 51)) (y := y_Mo_pop) (bytes := b_Mo_pop) hc fm_T0_good (fm_EX_st b x) hex q_1129 q_13 q_1126 q_1128 qs_Mo_pop pd_Mo_pop (by decide) (by omega) (by decide) (by decide) rfl rfl (rc_pop hn hR hg hd hd6 (by omega)) ⟨rfl, rfl, Nat.le_of_ble_eq_true rfl, Nat.le_of_ble_eq_true rfl⟩ ⟨Nat.le_of_ble_eq_true rfl, Nat.le_of_ble_eq_true rfl⟩ d_Mo_compute_2 (Nat.le_of_ble_eq_true rfl) (fun r n2 M2 hp => ?_)
  obtain ⟨rfl, hq1, hq2⟩ := hp
  replace hq1 := hq1.symm
  replace hq2 := hq2.symm
  subst hq1 hq2
  refine fm_cnt (z' := (0, 0)) rfl (fm_st (st' := [.long (M.2.1 613 (6 * gi + (d - 1)))]) rfl ?_)
  refine fm_l2i hc d_Mo_compute_5 ?_
  refine fm_top (congrArg Value.int (show (M.2.1 613 (6 * gi + (d - 1))).toInt32 = v by rw [hu]; exact vx_low v)) ?_
  refine fm_istore_n (lv' := [(3, .int v), (0, .ref 586), (1, .int (nI gi)), (2, .int (nI 3))]) hc d_Mo_compute_6 rfl (by decide) rfl ?_
  refine fm_aload_n hc d_Mo_compute_7 rfl rfl ?_
  refine fm_iload_n hc d_Mo_compute_8 rfl rfl ?_
  refine fm_callV (av := [.int (nI gi)]) (rest := []) (ob := 586) (ci := 11) (r0 := ("AgentNetModel", F_Mo, 51)) (y := y_Mo_pop) (bytes := b_Mo_pop) hc fm_T0_good (fm_EX_st b x) hex q_1129 q_13 q_1126 q_1128 qs_Mo_pop pd_Mo_pop (by decide) (by omega) (by decide) (by decide) rfl rfl (rc_pop (M := fm_put1 M 612 gi (nI (d - 1))) (d := d - 1) hn hR hg (p1_same _ _ _ _) (by omega) (by omega)) ⟨rfl, rfl, Nat.le_of_ble_eq_true rfl, Nat.le_of_ble_eq_true rfl⟩ ⟨Nat.le_of_ble_eq_true rfl, Nat.le_of_ble_eq_true rfl⟩ d_Mo_compute_9 (Nat.le_of_ble_eq_true rfl) (fun r n2 M2 hp => ?_)
  obtain ⟨rfl, hq1, hq2⟩ := hp
  replace hq1 := hq1.symm
  replace hq2 := hq2.symm
  subst hq1 hq2
  refine fm_cnt (z' := (0, 0)) rfl (fm_st (st' := [.long ((fm_put1 M 612 gi (nI (d - 1))).2.1 613 (6 * gi + (d - 1 - 1)))]) rfl ?_)
  refine fm_l2i hc d_Mo_compute_12 ?_
  refine fm_top (congrArg Value.int (show (M.2.1 613 (6 * gi + (d - 1 - 1))).toInt32 = a by rw [hl]; exact vx_low a)) ?_
  refine fm_istore (lv' := [(4, .int a), (3, .int v), (0, .ref 586), (1, .int (nI gi)), (2, .int (nI 3))]) hc d_Mo_compute_13 (by decide) rfl ?_
  refine fm_aload_n hc d_Mo_compute_15 rfl rfl ?_
  refine fm_iload_n hc d_Mo_compute_16 rfl rfl ?_
  refine fm_iload_n hc d_Mo_compute_17 rfl rfl ?_
  refine fm_iconst (v := nI 2) hc d_Mo_compute_18 rfl ?_
  refine fm_icmp_ne (tgt := 30) hc d_Mo_compute_19 rfl (fun _ => ?_) (fun g => absurd g (by decide))
  refine fm_iload_n hc d_Mo_compute_30 rfl rfl ?_
  refine fm_iconst (v := nI 3) hc d_Mo_compute_31 rfl ?_
  refine fm_icmp_ne (tgt := 43) hc d_Mo_compute_32 rfl (fun g => absurd (by decide) g) (fun _ => ?_)
  refine fm_iload hc d_Mo_compute_35 rfl ?_
  refine fm_iload_n hc d_Mo_compute_37 rfl rfl ?_
  refine fm_isub hc d_Mo_compute_38 ?_
  refine fm_i2l hc d_Mo_compute_39 ?_
  refine fm_goto (tgt := 48) hc d_Mo_compute_40 rfl ?_
  refine fm_callV (av := [.int (nI gi), .long ((a - v).toInt64)]) (rest := []) (ob := 586) (ci := 11) (r0 := ("AgentNetModel", F_Mo, 51)) (y := y_Mo_push) (bytes := b_Mo_push) hc fm_T0_good (fm_EX_st b x) hex q_1121 q_13 q_1118 q_1120 qs_Mo_push pd_Mo_push (by decide) (by omega) (by decide) (by decide) rfl rfl (rc_push (M := fm_put1 (fm_put1 M 612 gi (nI (d - 1))) 612 gi (nI (d - 1 - 1))) (d := d - 1 - 1) hn hR hg (p1_same _ _ _ _) (by omega)) ⟨rfl, rfl, Nat.le_of_ble_eq_true rfl, Nat.le_of_ble_eq_true rfl⟩ ⟨Nat.le_of_ble_eq_true rfl, Nat.le_of_ble_eq_true rfl⟩ d_Mo_compute_48 (Nat.le_of_ble_eq_true rfl) (fun r n2 M2 hp => ?_)
  obtain ⟨rfl, hq1, hq2⟩ := hp
  replace hq1 := hq1.symm
  replace hq2 := hq2.symm
  subst hq1 hq2
  refine fm_cnt (z' := (0, 0)) rfl (fm_st (st' := []) rfl ?_)
  exact fm_vret hc hr d_Mo_compute_51 (Nat.le_refl _) (Nat.le_refl _) ⟨rfl, rfl, rfl⟩
theorem rc_comp_4 {l : Launch} {b : Nat} {x : Nat → Nat} {D : va_G} {dA : Nat → ClassId} {gi d : Nat} {v a : Int32}  {n : Nat} {M : fm_M} (hn : 629 ≤ n) (hR : fm_RP M) (hg : gi < 98) (hd : M.1 612 gi = nI d) (hd6 : d ≤ 6) (hd2 : 2 ≤ d) (hu : M.2.1 613 (6 * gi + (d - 1)) = v.toInt64) (hl : M.2.1 613 (6 * gi + (d - 1 - 1)) = a.toInt64) : Met l y_Mo_compute (Cond.code y_Mo_compute b_Mo_compute 5 none :: fm_T0) ({ frames := 1, cells := 0, slots := 0, locals := 30 }) (fm_Pc fm_lay fm_nf fm_fk fm_cl b x D dA (fm_tys dA) (fm_EX b x) false [.ref 586, .int (nI gi), .int (nI 4)] n M) (fm_Qc fm_lay fm_nf fm_fk fm_cl b x D dA (fun r n' M' => r = none ∧ n' = n ∧ M' = fm_put1 (fm_put2 (fm_put1 (fm_put1 M 612 gi (nI (d - 1))) 612 gi (nI (d - 1 - 1))) 613 (6 * gi + (d - 1 - 1)) ((a * v).toInt64)) 612 gi (nI (d - 1 - 1 + 1)))) 0 0 (fm_A b) := by
  refine fm_enter (by decide) (Nat.le_of_ble_eq_true rfl) ?_
  intro p e s m args below meth c9 hc hr hnm hex htg
  refine fm_aload_n hc d_Mo_compute_0 rfl rfl ?_
  refine fm_iload_n hc d_Mo_compute_1 rfl rfl ?_
  refine fm_callV (av := [.int (nI gi)]) (rest := []) (ob := 586) (ci := 11) (r0 := ("AgentNetModel", F_Mo, 51)) (y := y_Mo_pop) (bytes := b_Mo_pop) hc fm_T0_good (fm_EX_st b x) hex q_1129 q_13 q_1126 q_1128 qs_Mo_pop pd_Mo_pop (by decide) (by omega) (by decide) (by decide) rfl rfl (rc_pop hn hR hg hd hd6 (by omega)) ⟨rfl, rfl, Nat.le_of_ble_eq_true rfl, Nat.le_of_ble_eq_true rfl⟩ ⟨Nat.le_of_ble_eq_true rfl, Nat.le_of_ble_eq_true rfl⟩ d_Mo_compute_2 (Nat.le_of_ble_eq_true rfl) (fun r n2 M2 hp => ?_)
  obtain ⟨rfl, hq1, hq2⟩ := hp
  replace hq1 := hq1.symm
  replace hq2 := hq2.symm
  subst hq1 hq2
  refine fm_cnt (z' := (0, 0)) rfl (fm_st (st' := [.long (M.2.1 613 (6 * gi + (d - 1)))]) rfl ?_)
  refine fm_l2i hc d_Mo_compute_5 ?_
  refine fm_top (congrArg Value.int (show (M.2.1 613 (6 * gi + (d - 1))).toInt32 = v by rw [hu]; exact vx_low v)) ?_
  refine fm_istore_n (lv' := [(3, .int v), (0, .ref 586), (1, .int (nI gi)), (2, .int (nI 4))]) hc d_Mo_compute_6 rfl (by decide) rfl ?_
  refine fm_aload_n hc d_Mo_compute_7 rfl rfl ?_
  refine fm_iload_n hc d_Mo_compute_8 rfl rfl ?_
  refine fm_callV (av := [.int (nI gi)]) (rest := []) (ob := 586) (ci := 11) (r0 := ("AgentNetModel", F_Mo, 51)) (y := y_Mo_pop) (bytes := b_Mo_pop) hc fm_T0_good (fm_EX_st b x) hex q_1129 q_13 q_1126 q_1128 qs_Mo_pop pd_Mo_pop (by decide) (by omega) (by decide) (by decide) rfl rfl (rc_pop (M := fm_put1 M 612 gi (nI (d - 1))) (d := d - 1) hn hR hg (p1_same _ _ _ _) (by omega) (by omega)) ⟨rfl, rfl, Nat.le_of_ble_eq_true rfl, Nat.le_of_ble_eq_true rfl⟩ ⟨Nat.le_of_ble_eq_true rfl, Nat.le_of_ble_eq_true rfl⟩ d_Mo_compute_9 (Nat.le_of_ble_eq_true rfl) (fun r n2 M2 hp => ?_)
  obtain ⟨rfl, hq1, hq2⟩ := hp
  replace hq1 := hq1.symm
  replace hq2 := hq2.symm
  subst hq1 hq2
  refine fm_cnt (z' := (0, 0)) rfl (fm_st (st' := [.long ((fm_put1 M 612 gi (nI (d - 1))).2.1 613 (6 * gi + (d - 1 - 1)))]) rfl ?_)
  refine fm_l2i hc d_Mo_compute_12 ?_
  refine fm_top (congrArg Value.int (show (M.2.1 613 (6 * gi + (d - 1 - 1))).toInt32 = a by rw [hl]; exact vx_low a)) ?_
  refine fm_istore (lv' := [(4, .int a), (3, .int v), (0, .ref 586), (1, .int (nI gi)), (2, .int (nI 4))]) hc d_Mo_compute_13 (by decide) rfl ?_
  refine fm_aload_n hc d_Mo_compute_15 rfl rfl ?_
  refine fm_iload_n hc d_Mo_compute_16 rfl rfl ?_
  refine fm_iload_n hc d_Mo_compute_17 rfl rfl ?_
  refine fm_iconst (v := nI 2) hc d_Mo_compute_18 rfl ?_
  refine fm_icmp_ne (tgt := 30) hc d_Mo_compute_19 rfl (fun _ => ?_) (fun g => absurd g (by decide))
  refine fm_iload_n hc d_Mo_compute_30 rfl rfl ?_
  refine fm_iconst (v := nI 3) hc d_Mo_compute_31 rfl ?_
  refine fm_icmp_ne (tgt := 43) hc d_Mo_compute_32 rfl (fun _ => ?_) (fun g => absurd g (by decide))
  refine fm_iload hc d_Mo_compute_43 rfl ?_
  refine fm_iload_n hc d_Mo_compute_45 rfl rfl ?_
  refine fm_imul hc d_Mo_compute_46 ?_
  refine fm_i2l hc d_Mo_compute_47 ?_
  refine fm_callV (av := [.int (nI gi), .long ((a * v).toInt64)]) (rest := []) (ob := 586) (ci := 11) (r0 := ("AgentNetModel", F_Mo, 51)) (y := y_Mo_push) (bytes := b_Mo_push) hc fm_T0_good (fm_EX_st b x) hex q_1121 q_13 q_1118 q_1120 qs_Mo_push pd_Mo_push (by decide) (by omega) (by decide) (by decide) rfl rfl (rc_push (M := fm_put1 (fm_put1 M 612 gi (nI (d - 1))) 612 gi (nI (d - 1 - 1))) (d := d - 1 - 1) hn hR hg (p1_same _ _ _ _) (by omega)) ⟨rfl, rfl, Nat.le_of_ble_eq_true rfl, Nat.le_of_ble_eq_true rfl⟩ ⟨Nat.le_of_ble_eq_true rfl, Nat.le_of_ble_eq_true rfl⟩ d_Mo_compute_48 (Nat.le_of_ble_eq_true rfl) (fun r n2 M2 hp => ?_)
  obtain ⟨rfl, hq1, hq2⟩ := hp
  replace hq1 := hq1.symm
  replace hq2 := hq2.symm
  subst hq1 hq2
  refine fm_cnt (z' := (0, 0)) rfl (fm_st (st' := []) rfl ?_)
  exact fm_vret hc hr d_Mo_compute_51 (Nat.le_refl _) (Nat.le_refl _) ⟨rfl, rfl, rfl⟩
theorem rc_cmp_e {l : Launch} {b : Nat} {x : Nat → Nat} {D : va_G} {dA : Nat → ClassId} {gi d : Nat}   {n : Nat} {M : fm_M} (hn : 629 ≤ n) (hR : fm_RP M) (hg : gi < 98) (hd : M.1 612 gi = nI d) (hd6 : d ≤ 6) (hd2 : 2 ≤ d) (h1 : M.2.1 613 (6 * gi + (d - 1 - 1)) = M.2.1 613 (6 * gi + (d - 1))) : Met l y_Mo_compare (Cond.code y_Mo_compare b_Mo_compare 6 none :: fm_T0) ({ frames := 1, cells := 0, slots := 0, locals := 30 }) (fm_Pc fm_lay fm_nf fm_fk fm_cl b x D dA (fm_tys dA) (fm_EX b x) false [.ref 586, .int (nI gi)] n M) (fm_Qc fm_lay fm_nf fm_fk fm_cl b x D dA (fun r n' M' => r = none ∧ n' = n ∧ M' = fm_put1 (fm_put2 (fm_put1 (fm_put1 M 612 gi (nI (d - 1))) 612 gi (nI (d - 1 - 1))) 613 (6 * gi + (d - 1 - 1)) 1) 612 gi (nI (d - 1 - 1 + 1)))) 0 0 (fm_A b) := by
  refine fm_enter (by decide) (Nat.le_of_ble_eq_true rfl) ?_
  intro p e s m args below meth c9 hc hr hnm hex htg
  refine fm_aload_n hc d_Mo_compare_0 rfl rfl ?_
  refine fm_iload_n hc d_Mo_compare_1 rfl rfl ?_
  refine fm_callV (av := [.int (nI gi)]) (rest := []) (ob := 586) (ci := 11) (r0 := ("AgentNetModel", F_Mo, 51)) (y := y_Mo_pop) (bytes := b_Mo_pop) hc fm_T0_good (fm_EX_st b x) hex q_1129 q_13 q_1126 q_1128 qs_Mo_pop pd_Mo_pop (by decide) (by omega) (by decide) (by decide) rfl rfl (rc_pop hn hR hg hd hd6 (by omega)) ⟨rfl, rfl, Nat.le_of_ble_eq_true rfl, Nat.le_of_ble_eq_true rfl⟩ ⟨Nat.le_of_ble_eq_true rfl, Nat.le_of_ble_eq_true rfl⟩ d_Mo_compare_2 (Nat.le_of_ble_eq_true rfl) (fun r n2 M2 hp => ?_)
  obtain ⟨rfl, hq1, hq2⟩ := hp
  replace hq1 := hq1.symm
  replace hq2 := hq2.symm
  subst hq1 hq2
  refine fm_cnt (z' := (0, 0)) rfl (fm_st (st' := [.long (M.2.1 613 (6 * gi + (d - 1)))]) rfl ?_)
  refine fm_lstore_n (lv' := [(2, .long (M.2.1 613 (6 * gi + (d - 1)))), (0, .ref 586), (1, .int (nI gi))]) hc d_Mo_compare_5 rfl (by decide) rfl ?_
  refine fm_aload_n hc d_Mo_compare_6 rfl rfl ?_
  refine fm_iload_n hc d_Mo_compare_7 rfl rfl ?_
  refine fm_callV (av := [.int (nI gi)]) (rest := []) (ob := 586) (ci := 11) (r0 := ("AgentNetModel", F_Mo, 51)) (y := y_Mo_pop) (bytes := b_Mo_pop) hc fm_T0_good (fm_EX_st b x) hex q_1129 q_13 q_1126 q_1128 qs_Mo_pop pd_Mo_pop (by decide) (by omega) (by decide) (by decide) rfl rfl (rc_pop (M := fm_put1 M 612 gi (nI (d - 1))) (d := d - 1) hn hR hg (p1_same _ _ _ _) (by omega) (by omega)) ⟨rfl, rfl, Nat.le_of_ble_eq_true rfl, Nat.le_of_ble_eq_true rfl⟩ ⟨Nat.le_of_ble_eq_true rfl, Nat.le_of_ble_eq_true rfl⟩ d_Mo_compare_8 (Nat.le_of_ble_eq_true rfl) (fun r n2 M2 hp => ?_)
  obtain ⟨rfl, hq1, hq2⟩ := hp
  replace hq1 := hq1.symm
  replace hq2 := hq2.symm
  subst hq1 hq2
  refine fm_cnt (z' := (0, 0)) rfl (fm_st (st' := [.long ((fm_put1 M 612 gi (nI (d - 1))).2.1 613 (6 * gi + (d - 1 - 1)))]) rfl ?_)
  refine fm_lstore (lv' := [(4, .long ((fm_put1 M 612 gi (nI (d - 1))).2.1 613 (6 * gi + (d - 1 - 1)))), (2, .long (M.2.1 613 (6 * gi + (d - 1)))), (0, .ref 586), (1, .int (nI gi))]) hc d_Mo_compare_11 (by decide) rfl ?_
  refine fm_aload_n hc d_Mo_compare_13 rfl rfl ?_
  refine fm_iload_n hc d_Mo_compare_14 rfl rfl ?_
  refine fm_lload hc d_Mo_compare_15 rfl ?_
  refine fm_lload_n hc d_Mo_compare_17 rfl rfl ?_
  refine fm_lcmp hc d_Mo_compare_18 ?_
  refine fm_if_ne (tgt := 26) hc d_Mo_compare_19 rfl (fun g => absurd ((lg_cmp_eq _ _).mpr h1) g) (fun _ => ?_)
  refine fm_lconst (v := 1) hc d_Mo_compare_22 rfl ?_
  refine fm_goto (tgt := 27) hc d_Mo_compare_23 rfl ?_
  refine fm_callV (av := [.int (nI gi), .long 1]) (rest := []) (ob := 586) (ci := 11) (r0 := ("AgentNetModel", F_Mo, 51)) (y := y_Mo_push) (bytes := b_Mo_push) hc fm_T0_good (fm_EX_st b x) hex q_1121 q_13 q_1118 q_1120 qs_Mo_push pd_Mo_push (by decide) (by omega) (by decide) (by decide) rfl rfl (rc_push (M := fm_put1 (fm_put1 M 612 gi (nI (d - 1))) 612 gi (nI (d - 1 - 1))) (d := d - 1 - 1) hn hR hg (p1_same _ _ _ _) (by omega)) ⟨rfl, rfl, Nat.le_of_ble_eq_true rfl, Nat.le_of_ble_eq_true rfl⟩ ⟨Nat.le_of_ble_eq_true rfl, Nat.le_of_ble_eq_true rfl⟩ d_Mo_compare_27 (Nat.le_of_ble_eq_true rfl) (fun r n2 M2 hp => ?_)
  obtain ⟨rfl, hq1, hq2⟩ := hp
  replace hq1 := hq1.symm
  replace hq2 := hq2.symm
  subst hq1 hq2
  refine fm_cnt (z' := (0, 0)) rfl (fm_st (st' := []) rfl ?_)
  exact fm_vret hc hr d_Mo_compare_30 (Nat.le_refl _) (Nat.le_refl _) ⟨rfl, rfl, rfl⟩
theorem rc_cmp_n {l : Launch} {b : Nat} {x : Nat → Nat} {D : va_G} {dA : Nat → ClassId} {gi d : Nat}   {n : Nat} {M : fm_M} (hn : 629 ≤ n) (hR : fm_RP M) (hg : gi < 98) (hd : M.1 612 gi = nI d) (hd6 : d ≤ 6) (hd2 : 2 ≤ d) (h1 : ¬ M.2.1 613 (6 * gi + (d - 1 - 1)) = M.2.1 613 (6 * gi + (d - 1))) : Met l y_Mo_compare (Cond.code y_Mo_compare b_Mo_compare 6 none :: fm_T0) ({ frames := 1, cells := 0, slots := 0, locals := 30 }) (fm_Pc fm_lay fm_nf fm_fk fm_cl b x D dA (fm_tys dA) (fm_EX b x) false [.ref 586, .int (nI gi)] n M) (fm_Qc fm_lay fm_nf fm_fk fm_cl b x D dA (fun r n' M' => r = none ∧ n' = n ∧ M' = fm_put1 (fm_put2 (fm_put1 (fm_put1 M 612 gi (nI (d - 1))) 612 gi (nI (d - 1 - 1))) 613 (6 * gi + (d - 1 - 1)) 0) 612 gi (nI (d - 1 - 1 + 1)))) 0 0 (fm_A b) := by
  refine fm_enter (by decide) (Nat.le_of_ble_eq_true rfl) ?_
  intro p e s m args below meth c9 hc hr hnm hex htg
  refine fm_aload_n hc d_Mo_compare_0 rfl rfl ?_
  refine fm_iload_n hc d_Mo_compare_1 rfl rfl ?_
  refine fm_callV (av := [.int (nI gi)]) (rest := []) (ob := 586) (ci := 11) (r0 := ("AgentNetModel", F_Mo, 51)) (y := y_Mo_pop) (bytes := b_Mo_pop) hc fm_T0_good (fm_EX_st b x) hex q_1129 q_13 q_1126 q_1128 qs_Mo_pop pd_Mo_pop (by decide) (by omega) (by decide) (by decide) rfl rfl (rc_pop hn hR hg hd hd6 (by omega)) ⟨rfl, rfl, Nat.le_of_ble_eq_true rfl, Nat.le_of_ble_eq_true rfl⟩ ⟨Nat.le_of_ble_eq_true rfl, Nat.le_of_ble_eq_true rfl⟩ d_Mo_compare_2 (Nat.le_of_ble_eq_true rfl) (fun r n2 M2 hp => ?_)
  obtain ⟨rfl, hq1, hq2⟩ := hp
  replace hq1 := hq1.symm
  replace hq2 := hq2.symm
  subst hq1 hq2
  refine fm_cnt (z' := (0, 0)) rfl (fm_st (st' := [.long (M.2.1 613 (6 * gi + (d - 1)))]) rfl ?_)
  refine fm_lstore_n (lv' := [(2, .long (M.2.1 613 (6 * gi + (d - 1)))), (0, .ref 586), (1, .int (nI gi))]) hc d_Mo_compare_5 rfl (by decide) rfl ?_
  refine fm_aload_n hc d_Mo_compare_6 rfl rfl ?_
  refine fm_iload_n hc d_Mo_compare_7 rfl rfl ?_
  refine fm_callV (av := [.int (nI gi)]) (rest := []) (ob := 586) (ci := 11) (r0 := ("AgentNetModel", F_Mo, 51)) (y := y_Mo_pop) (bytes := b_Mo_pop) hc fm_T0_good (fm_EX_st b x) hex q_1129 q_13 q_1126 q_1128 qs_Mo_pop pd_Mo_pop (by decide) (by omega) (by decide) (by decide) rfl rfl (rc_pop (M := fm_put1 M 612 gi (nI (d - 1))) (d := d - 1) hn hR hg (p1_same _ _ _ _) (by omega) (by omega)) ⟨rfl, rfl, Nat.le_of_ble_eq_true rfl, Nat.le_of_ble_eq_true rfl⟩ ⟨Nat.le_of_ble_eq_true rfl, Nat.le_of_ble_eq_true rfl⟩ d_Mo_compare_8 (Nat.le_of_ble_eq_true rfl) (fun r n2 M2 hp => ?_)
  obtain ⟨rfl, hq1, hq2⟩ := hp
  replace hq1 := hq1.symm
  replace hq2 := hq2.symm
  subst hq1 hq2
  refine fm_cnt (z' := (0, 0)) rfl (fm_st (st' := [.long ((fm_put1 M 612 gi (nI (d - 1))).2.1 613 (6 * gi + (d - 1 - 1)))]) rfl ?_)
  refine fm_lstore (lv' := [(4, .long ((fm_put1 M 612 gi (nI (d - 1))).2.1 613 (6 * gi + (d - 1 - 1)))), (2, .long (M.2.1 613 (6 * gi + (d - 1)))), (0, .ref 586), (1, .int (nI gi))]) hc d_Mo_compare_11 (by decide) rfl ?_
  refine fm_aload_n hc d_Mo_compare_13 rfl rfl ?_
  refine fm_iload_n hc d_Mo_compare_14 rfl rfl ?_
  refine fm_lload hc d_Mo_compare_15 rfl ?_
  refine fm_lload_n hc d_Mo_compare_17 rfl rfl ?_
  refine fm_lcmp hc d_Mo_compare_18 ?_
  refine fm_if_ne (tgt := 26) hc d_Mo_compare_19 rfl (fun _ => ?_) (fun g => absurd g (fun q => h1 ((lg_cmp_eq _ _).mp q)))
  refine fm_lconst (v := 0) hc d_Mo_compare_26 rfl ?_
  refine fm_callV (av := [.int (nI gi), .long 0]) (rest := []) (ob := 586) (ci := 11) (r0 := ("AgentNetModel", F_Mo, 51)) (y := y_Mo_push) (bytes := b_Mo_push) hc fm_T0_good (fm_EX_st b x) hex q_1121 q_13 q_1118 q_1120 qs_Mo_push pd_Mo_push (by decide) (by omega) (by decide) (by decide) rfl rfl (rc_push (M := fm_put1 (fm_put1 M 612 gi (nI (d - 1))) 612 gi (nI (d - 1 - 1))) (d := d - 1 - 1) hn hR hg (p1_same _ _ _ _) (by omega)) ⟨rfl, rfl, Nat.le_of_ble_eq_true rfl, Nat.le_of_ble_eq_true rfl⟩ ⟨Nat.le_of_ble_eq_true rfl, Nat.le_of_ble_eq_true rfl⟩ d_Mo_compare_27 (Nat.le_of_ble_eq_true rfl) (fun r n2 M2 hp => ?_)
  obtain ⟨rfl, hq1, hq2⟩ := hp
  replace hq1 := hq1.symm
  replace hq2 := hq2.symm
  subst hq1 hq2
  refine fm_cnt (z' := (0, 0)) rfl (fm_st (st' := []) rfl ?_)
  exact fm_vret hc hr d_Mo_compare_30 (Nat.le_refl _) (Nat.le_refl _) ⟨rfl, rfl, rfl⟩
theorem rc_put_17 {l : Launch} {b : Nat} {x : Nat → Nat} {D : va_G} {dA : Nat → ClassId} {gi d k : Nat}   {n : Nat} {M : fm_M} (hn : 629 ≤ n) (hR : fm_RP M) (hg : gi < 98) (hd : M.1 612 gi = nI d) (hd6 : d ≤ 6) (hd2 : 2 ≤ d) (hl : M.2.1 613 (6 * gi + (d - 1 - 1)) = 1099511627776 + (nI k).toInt64) (hk : k < 9) : Met l y_Mo_put (Cond.code y_Mo_put b_Mo_put 6 none :: fm_T0) ({ frames := 1, cells := 0, slots := 0, locals := 30 }) (fm_Pc fm_lay fm_nf fm_fk fm_cl b x D dA (fm_tys dA) (fm_EX b x) false [.ref 586, .int (nI gi), .int (nI 17)] n M) (fm_Qc fm_lay fm_nf fm_fk fm_cl b x D dA (fun r n' M' => r = none ∧ n' = n ∧ M' = fm_put2 (fm_put1 (fm_put1 M 612 gi (nI (d - 1))) 612 gi (nI (d - 1 - 1))) 615 (9 * gi + k) (M.2.1 613 (6 * gi + (d - 1))))) 0 0 (fm_A b) := by
  refine fm_enter (by decide) (Nat.le_of_ble_eq_true rfl) ?_
  intro p e s m args below meth c9 hc hr hnm hex htg
  refine fm_aload_n hc d_Mo_put_0 rfl rfl ?_
  refine fm_iload_n hc d_Mo_put_1 rfl rfl ?_
  refine fm_callV (av := [.int (nI gi)]) (rest := []) (ob := 586) (ci := 11) (r0 := ("AgentNetModel", F_Mo, 51)) (y := y_Mo_pop) (bytes := b_Mo_pop) hc fm_T0_good (fm_EX_st b x) hex q_1129 q_13 q_1126 q_1128 qs_Mo_pop pd_Mo_pop (by decide) (by omega) (by decide) (by decide) rfl rfl (rc_pop hn hR hg hd hd6 (by omega)) ⟨rfl, rfl, Nat.le_of_ble_eq_true rfl, Nat.le_of_ble_eq_true rfl⟩ ⟨Nat.le_of_ble_eq_true rfl, Nat.le_of_ble_eq_true rfl⟩ d_Mo_put_2 (Nat.le_of_ble_eq_true rfl) (fun r n2 M2 hp => ?_)
  obtain ⟨rfl, hq1, hq2⟩ := hp
  replace hq1 := hq1.symm
  replace hq2 := hq2.symm
  subst hq1 hq2
  refine fm_cnt (z' := (0, 0)) rfl (fm_st (st' := [.long (M.2.1 613 (6 * gi + (d - 1)))]) rfl ?_)
  refine fm_lstore_n (lv' := [(3, .long (M.2.1 613 (6 * gi + (d - 1)))), (0, .ref 586), (1, .int (nI gi)), (2, .int (nI 17))]) hc d_Mo_put_5 rfl (by decide) rfl ?_
  refine fm_bipush (v := nI 9) hc d_Mo_put_6 rfl ?_
  refine fm_iload_n hc d_Mo_put_8 rfl rfl ?_
  refine fm_imul hc d_Mo_put_9 ?_
  refine fm_top (congrArg Value.int (pk_mul 9 gi)) ?_
  refine fm_aload_n hc d_Mo_put_10 rfl rfl ?_
  refine fm_iload_n hc d_Mo_put_11 rfl rfl ?_
  refine fm_callV (av := [.int (nI gi)]) (rest := [.int (nI (9 * gi))]) (ob := 586) (ci := 11) (r0 := ("AgentNetModel", F_Mo, 51)) (y := y_Mo_pop) (bytes := b_Mo_pop) hc fm_T0_good (fm_EX_st b x) hex q_1129 q_13 q_1126 q_1128 qs_Mo_pop pd_Mo_pop (by decide) (by omega) (by decide) (by decide) rfl rfl (by have h9 := rc_pop (l := l) (b := b) (x := x) (D := D) (dA := dA) (n := n) (M := fm_put1 M 612 gi (nI (d - 1))) (d := d - 1) hn hR hg (p1_same _ _ _ _) (by omega) (by omega); rw [show (fm_put1 M 612 gi (nI (d - 1))).2.1 613 (6 * gi + (d - 1 - 1)) = 1099511627776 + (nI k).toInt64 from hl] at h9; exact h9) ⟨rfl, rfl, Nat.le_of_ble_eq_true rfl, Nat.le_of_ble_eq_true rfl⟩ ⟨Nat.le_of_ble_eq_true rfl, Nat.le_of_ble_eq_true rfl⟩ d_Mo_put_12 (Nat.le_of_ble_eq_true rfl) (fun r n2 M2 hp => ?_)
  obtain ⟨rfl, hq1, hq2⟩ := hp
  replace hq1 := hq1.symm
  replace hq2 := hq2.symm
  subst hq1 hq2
  refine fm_cnt (z' := (0, 0)) rfl (fm_st (st' := [.long (1099511627776 + (nI k).toInt64), .int (nI (9 * gi))]) rfl ?_)
  refine fm_callS (av := [.long (1099511627776 + (nI k).toInt64)]) (rest := [.int (nI (9 * gi))]) (y := y_Mo_pairOf) (bytes := b_Mo_pairOf) hc fm_T0_good (fm_EX_st b x) hex q_1113 q_13 q_1111 q_1112 pd_Mo_pairOf (rc_pairOf (by omega)) ⟨rfl, rfl, Nat.le_of_ble_eq_true rfl, Nat.le_of_ble_eq_true rfl⟩ ⟨Nat.le_of_ble_eq_true rfl, Nat.le_of_ble_eq_true rfl⟩ d_Mo_put_15 (Nat.le_of_ble_eq_true rfl) (fun r n2 M2 hp => ?_)
  obtain ⟨rfl, hq1, hq2⟩ := hp
  replace hq1 := hq1.symm
  replace hq2 := hq2.symm
  subst hq1 hq2
  refine fm_cnt (z' := (0, 0)) rfl (fm_st (st' := [.int (nI k), .int (nI (9 * gi))]) rfl ?_)
  refine fm_iadd hc d_Mo_put_18 ?_
  refine fm_top (congrArg Value.int (nI_add (9 * gi) k)) ?_
  refine fm_istore (lv' := [(5, .int (nI ((9 * gi) + k))), (3, .long (M.2.1 613 (6 * gi + (d - 1)))), (0, .ref 586), (1, .int (nI gi)), (2, .int (nI 17))]) hc d_Mo_put_19 (by decide) rfl ?_
  refine fm_aload_n hc d_Mo_put_21 rfl rfl ?_
  refine fm_getR (k := 30) (q := 615) hc K_Mo d_Mo_put_22 q_915 rfl (by decide) (by omega) (by decide) (by decide) (by decide) rfl (rp_first hR) ?_
  refine fm_iload hc d_Mo_put_25 rfl ?_
  refine fm_iload_n hc d_Mo_put_27 rfl rfl ?_
  refine fm_bipush (v := nI 17) hc d_Mo_put_28 rfl ?_
  refine fm_icmp_ne (tgt := 37) hc d_Mo_put_30 rfl (fun g => absurd (by decide) g) (fun _ => ?_)
  refine fm_lload_n hc d_Mo_put_33 rfl rfl ?_
  refine fm_goto (tgt := 44) hc d_Mo_put_34 rfl ?_
  refine fm_last (j := (9 * gi) + k) (len := 882) (v := M.2.1 613 (6 * gi + (d - 1))) hc 3 d_Mo_put_44 (by decide) (by omega) (by decide) rfl (by omega) (by decide) ?_
  refine fm_mem (M' := fm_put2 (fm_put1 (fm_put1 M 612 gi (nI (d - 1))) 612 gi (nI (d - 1 - 1))) 615 (9 * gi + k) (M.2.1 613 (6 * gi + (d - 1)))) rfl rfl ?_
  refine fm_aload_n hc d_Mo_put_45 rfl rfl ?_
  refine fm_getR (k := 31) (q := 616) hc K_Mo d_Mo_put_46 q_916 rfl (by decide) (by omega) (by decide) (by decide) (by decide) rfl (rp_second hR) ?_
  refine fm_iload hc d_Mo_put_49 rfl ?_
  refine fm_iload_n hc d_Mo_put_51 rfl rfl ?_
  refine fm_bipush (v := nI 18) hc d_Mo_put_52 rfl ?_
  refine fm_icmp_ne (tgt := 61) hc d_Mo_put_54 rfl (fun _ => ?_) (fun g => absurd g (by decide))
  refine fm_aload_n hc d_Mo_put_61 rfl rfl ?_
  refine fm_getR (k := 31) (q := 616) hc K_Mo d_Mo_put_62 q_916 rfl (by decide) (by omega) (by decide) (by decide) (by decide) rfl (rp_second hR) ?_
  refine fm_iload hc d_Mo_put_65 rfl ?_
  refine fm_lald (j := (9 * gi) + k) (len := 882) hc 3 d_Mo_put_67 (by decide) (by omega) (by decide) rfl (by omega) (by decide) ?_
  refine fm_last (j := (9 * gi) + k) (len := 882) (v := (fm_put2 (fm_put1 (fm_put1 M 612 gi (nI (d - 1))) 612 gi (nI (d - 1 - 1))) 615 (9 * gi + k) (M.2.1 613 (6 * gi + (d - 1)))).2.1 616 ((9 * gi) + k)) hc 3 d_Mo_put_68 (by decide) (by omega) (by decide) rfl (by omega) (by decide) ?_
  refine fm_mem (M' := fm_put2 (fm_put1 (fm_put1 M 612 gi (nI (d - 1))) 612 gi (nI (d - 1 - 1))) 615 (9 * gi + k) (M.2.1 613 (6 * gi + (d - 1)))) rfl (p2_id rfl) ?_
  exact fm_vret hc hr d_Mo_put_69 (Nat.le_refl _) (Nat.le_refl _) ⟨rfl, rfl, rfl⟩
theorem rc_put_18 {l : Launch} {b : Nat} {x : Nat → Nat} {D : va_G} {dA : Nat → ClassId} {gi d k : Nat}   {n : Nat} {M : fm_M} (hn : 629 ≤ n) (hR : fm_RP M) (hg : gi < 98) (hd : M.1 612 gi = nI d) (hd6 : d ≤ 6) (hd2 : 2 ≤ d) (hl : M.2.1 613 (6 * gi + (d - 1 - 1)) = 1099511627776 + (nI k).toInt64) (hk : k < 9) : Met l y_Mo_put (Cond.code y_Mo_put b_Mo_put 6 none :: fm_T0) ({ frames := 1, cells := 0, slots := 0, locals := 30 }) (fm_Pc fm_lay fm_nf fm_fk fm_cl b x D dA (fm_tys dA) (fm_EX b x) false [.ref 586, .int (nI gi), .int (nI 18)] n M) (fm_Qc fm_lay fm_nf fm_fk fm_cl b x D dA (fun r n' M' => r = none ∧ n' = n ∧ M' = fm_put2 (fm_put1 (fm_put1 M 612 gi (nI (d - 1))) 612 gi (nI (d - 1 - 1))) 616 (9 * gi + k) (M.2.1 613 (6 * gi + (d - 1))))) 0 0 (fm_A b) := by
  refine fm_enter (by decide) (Nat.le_of_ble_eq_true rfl) ?_
  intro p e s m args below meth c9 hc hr hnm hex htg
  refine fm_aload_n hc d_Mo_put_0 rfl rfl ?_
  refine fm_iload_n hc d_Mo_put_1 rfl rfl ?_
  refine fm_callV (av := [.int (nI gi)]) (rest := []) (ob := 586) (ci := 11) (r0 := ("AgentNetModel", F_Mo, 51)) (y := y_Mo_pop) (bytes := b_Mo_pop) hc fm_T0_good (fm_EX_st b x) hex q_1129 q_13 q_1126 q_1128 qs_Mo_pop pd_Mo_pop (by decide) (by omega) (by decide) (by decide) rfl rfl (rc_pop hn hR hg hd hd6 (by omega)) ⟨rfl, rfl, Nat.le_of_ble_eq_true rfl, Nat.le_of_ble_eq_true rfl⟩ ⟨Nat.le_of_ble_eq_true rfl, Nat.le_of_ble_eq_true rfl⟩ d_Mo_put_2 (Nat.le_of_ble_eq_true rfl) (fun r n2 M2 hp => ?_)
  obtain ⟨rfl, hq1, hq2⟩ := hp
  replace hq1 := hq1.symm
  replace hq2 := hq2.symm
  subst hq1 hq2
  refine fm_cnt (z' := (0, 0)) rfl (fm_st (st' := [.long (M.2.1 613 (6 * gi + (d - 1)))]) rfl ?_)
  refine fm_lstore_n (lv' := [(3, .long (M.2.1 613 (6 * gi + (d - 1)))), (0, .ref 586), (1, .int (nI gi)), (2, .int (nI 18))]) hc d_Mo_put_5 rfl (by decide) rfl ?_
  refine fm_bipush (v := nI 9) hc d_Mo_put_6 rfl ?_
  refine fm_iload_n hc d_Mo_put_8 rfl rfl ?_
  refine fm_imul hc d_Mo_put_9 ?_
  refine fm_top (congrArg Value.int (pk_mul 9 gi)) ?_
  refine fm_aload_n hc d_Mo_put_10 rfl rfl ?_
  refine fm_iload_n hc d_Mo_put_11 rfl rfl ?_
  refine fm_callV (av := [.int (nI gi)]) (rest := [.int (nI (9 * gi))]) (ob := 586) (ci := 11) (r0 := ("AgentNetModel", F_Mo, 51)) (y := y_Mo_pop) (bytes := b_Mo_pop) hc fm_T0_good (fm_EX_st b x) hex q_1129 q_13 q_1126 q_1128 qs_Mo_pop pd_Mo_pop (by decide) (by omega) (by decide) (by decide) rfl rfl (by have h9 := rc_pop (l := l) (b := b) (x := x) (D := D) (dA := dA) (n := n) (M := fm_put1 M 612 gi (nI (d - 1))) (d := d - 1) hn hR hg (p1_same _ _ _ _) (by omega) (by omega); rw [show (fm_put1 M 612 gi (nI (d - 1))).2.1 613 (6 * gi + (d - 1 - 1)) = 1099511627776 + (nI k).toInt64 from hl] at h9; exact h9) ⟨rfl, rfl, Nat.le_of_ble_eq_true rfl, Nat.le_of_ble_eq_true rfl⟩ ⟨Nat.le_of_ble_eq_true rfl, Nat.le_of_ble_eq_true rfl⟩ d_Mo_put_12 (Nat.le_of_ble_eq_true rfl) (fun r n2 M2 hp => ?_)
  obtain ⟨rfl, hq1, hq2⟩ := hp
  replace hq1 := hq1.symm
  replace hq2 := hq2.symm
  subst hq1 hq2
  refine fm_cnt (z' := (0, 0)) rfl (fm_st (st' := [.long (1099511627776 + (nI k).toInt64), .int (nI (9 * gi))]) rfl ?_)
  refine fm_callS (av := [.long (1099511627776 + (nI k).toInt64)]) (rest := [.int (nI (9 * gi))]) (y := y_Mo_pairOf) (bytes := b_Mo_pairOf) hc fm_T0_good (fm_EX_st b x) hex q_1113 q_13 q_1111 q_1112 pd_Mo_pairOf (rc_pairOf (by omega)) ⟨rfl, rfl, Nat.le_of_ble_eq_true rfl, Nat.le_of_ble_eq_true rfl⟩ ⟨Nat.le_of_ble_eq_true rfl, Nat.le_of_ble_eq_true rfl⟩ d_Mo_put_15 (Nat.le_of_ble_eq_true rfl) (fun r n2 M2 hp => ?_)
  obtain ⟨rfl, hq1, hq2⟩ := hp
  replace hq1 := hq1.symm
  replace hq2 := hq2.symm
  subst hq1 hq2
  refine fm_cnt (z' := (0, 0)) rfl (fm_st (st' := [.int (nI k), .int (nI (9 * gi))]) rfl ?_)
  refine fm_iadd hc d_Mo_put_18 ?_
  refine fm_top (congrArg Value.int (nI_add (9 * gi) k)) ?_
  refine fm_istore (lv' := [(5, .int (nI ((9 * gi) + k))), (3, .long (M.2.1 613 (6 * gi + (d - 1)))), (0, .ref 586), (1, .int (nI gi)), (2, .int (nI 18))]) hc d_Mo_put_19 (by decide) rfl ?_
  refine fm_aload_n hc d_Mo_put_21 rfl rfl ?_
  refine fm_getR (k := 30) (q := 615) hc K_Mo d_Mo_put_22 q_915 rfl (by decide) (by omega) (by decide) (by decide) (by decide) rfl (rp_first hR) ?_
  refine fm_iload hc d_Mo_put_25 rfl ?_
  refine fm_iload_n hc d_Mo_put_27 rfl rfl ?_
  refine fm_bipush (v := nI 17) hc d_Mo_put_28 rfl ?_
  refine fm_icmp_ne (tgt := 37) hc d_Mo_put_30 rfl (fun _ => ?_) (fun g => absurd g (by decide))
  refine fm_aload_n hc d_Mo_put_37 rfl rfl ?_
  refine fm_getR (k := 30) (q := 615) hc K_Mo d_Mo_put_38 q_915 rfl (by decide) (by omega) (by decide) (by decide) (by decide) rfl (rp_first hR) ?_
  refine fm_iload hc d_Mo_put_41 rfl ?_
  refine fm_lald (j := (9 * gi) + k) (len := 882) hc 3 d_Mo_put_43 (by decide) (by omega) (by decide) rfl (by omega) (by decide) ?_
  refine fm_last (j := (9 * gi) + k) (len := 882) (v := (fm_put1 (fm_put1 M 612 gi (nI (d - 1))) 612 gi (nI (d - 1 - 1))).2.1 615 ((9 * gi) + k)) hc 3 d_Mo_put_44 (by decide) (by omega) (by decide) rfl (by omega) (by decide) ?_
  refine fm_mem (M' := fm_put1 (fm_put1 M 612 gi (nI (d - 1))) 612 gi (nI (d - 1 - 1))) rfl (p2_id rfl) ?_
  refine fm_aload_n hc d_Mo_put_45 rfl rfl ?_
  refine fm_getR (k := 31) (q := 616) hc K_Mo d_Mo_put_46 q_916 rfl (by decide) (by omega) (by decide) (by decide) (by decide) rfl (rp_second hR) ?_
  refine fm_iload hc d_Mo_put_49 rfl ?_
  refine fm_iload_n hc d_Mo_put_51 rfl rfl ?_
  refine fm_bipush (v := nI 18) hc d_Mo_put_52 rfl ?_
  refine fm_icmp_ne (tgt := 61) hc d_Mo_put_54 rfl (fun g => absurd (by decide) g) (fun _ => ?_)
  refine fm_lload_n hc d_Mo_put_57 rfl rfl ?_
  refine fm_goto (tgt := 68) hc d_Mo_put_58 rfl ?_
  refine fm_last (j := (9 * gi) + k) (len := 882) (v := M.2.1 613 (6 * gi + (d - 1))) hc 3 d_Mo_put_68 (by decide) (by omega) (by decide) rfl (by omega) (by decide) ?_
  refine fm_mem (M' := fm_put2 (fm_put1 (fm_put1 M 612 gi (nI (d - 1))) 612 gi (nI (d - 1 - 1))) 616 (9 * gi + k) (M.2.1 613 (6 * gi + (d - 1)))) rfl rfl ?_
  exact fm_vret hc hr d_Mo_put_69 (Nat.le_refl _) (Nat.le_refl _) ⟨rfl, rfl, rfl⟩
theorem map_id (v : bf_V) : bf_map id v = v := by cases v <;> rfl
theorem hrG_pairI {M : fm_M} {gi np : Nat} {F : Nat → Prop} {N : Nat → Nat} {s : List bf_V} {p : List (bf_V × bf_V)} {a c : bf_V} (hp : p.length = np) (hnp : np < 9) (h : hr_G M gi F (N, s, p) id) : hr_G (fm_put2 (fm_put2 M 615 (9 * gi + np) (e64 a)) 616 (9 * gi + np) (e64 c)) gi F (N, s, p ++ [(a, c)]) id := by
  obtain ⟨h1, h2, h3, h4, h5, h6⟩ := h
  have hl : (p ++ [(a, c)]).length = np + 1 := by rw [List.length_append, hp]; rfl
  refine ⟨h1, h2, fun q hq => ?_, fun q t _ _ e => e, fun j w hw => (p2_other (by decide)).trans ((p2_other (by decide)).trans (h5 j w hw)), fun j q hq => ?_⟩
  · have hq : q < (p ++ [(a, c)]).length := hq
    rw [hl] at hq
    show q < 9
    omega
  · have hq : (p ++ [(a, c)])[j]? = some q := hq
    show (fm_put2 (fm_put2 M 615 (9 * gi + np) (e64 a)) 616 (9 * gi + np) (e64 c)).2.1 615 (9 * gi + j) = e64 (bf_map id q.1) ∧ (fm_put2 (fm_put2 M 615 (9 * gi + np) (e64 a)) 616 (9 * gi + np) (e64 c)).2.1 616 (9 * gi + j) = e64 (bf_map id q.2)
    by_cases e : j = np
    · subst e
      rw [List.getElem?_append_right (by omega), hp, Nat.sub_self] at hq
      cases hq
      rw [p2_other (by decide), p2_same, p2_same, map_id, map_id]
      exact ⟨rfl, rfl⟩
    · have hlt : j < p.length := by
        have := (List.getElem?_eq_some_iff.mp hq).1
        simp at this
        omega
      rw [List.getElem?_append_left hlt] at hq
      rw [p2_other (by decide), p2_at (by omega), p2_at (by omega), p2_other (by decide)]
      exact h6 j q hq
theorem rc_newPair {l : Launch} {b : Nat} {x : Nat → Nat} {D : va_G} {dA : Nat → ClassId} {gi n : Nat} {F : Nat → Prop} {A : ag_T} {g : Nat → Nat} {M : fm_M} (hn : 629 ≤ n) (hR : fm_RP M) (hg : gi < 98) (h : hr_G M gi F A g) (ok : ag_ok A) (hcan : ag_can A = A) (hd2 : 2 ≤ A.2.1.length) (hnp : A.2.2.length < 8) : Met l y_Mo_newPair (Cond.code y_Mo_newPair b_Mo_newPair 6 none :: fm_T0) ({ frames := 4, cells := 0, slots := 0, locals := 95 }) (fm_Pc fm_lay fm_nf fm_fk fm_cl b x D dA (fm_tys dA) (fm_EX b x) false [.ref 586, .int (nI gi)] n M) (fm_Qc fm_lay fm_nf fm_fk fm_cl b x D dA (fun r n' M' => r = none ∧ n' = n ∧ hr_G M' gi F (A.1, A.2.1.take (A.2.1.length - 2) ++ [.inr A.2.2.length], A.2.2 ++ [(ag_low 14 A, ag_upp A)]) id ∧ fr_W gi M M')) 0 0 (fm_A b) := by
  refine fm_enter (by decide) (Nat.le_of_ble_eq_true rfl) ?_
  intro p e s m args below meth c9 hc hr hnm hex htg
  have htidy := rc_tidy (l := l) (b := b) (x := x) (D := D) (dA := dA) hn hR hg h ok
  rw [hcan] at htidy
  have hd6 := ok.1
  have gu := (getD_mem (s := A.2.1) (k := A.2.1.length - 1) (by omega)).1
  have gl := (getD_mem (s := A.2.1) (k := A.2.1.length - 2) (by omega)).1
  refine fm_aload_n hc d_Mo_newPair_0 rfl rfl ?_
  refine fm_iload_n hc d_Mo_newPair_1 rfl rfl ?_
  refine fm_callV (av := [.int (nI gi)]) (rest := []) (ob := 586) (ci := 11) (r0 := ("AgentNetModel", F_Mo, 51)) (y := y_Mo_tidy) (bytes := b_Mo_tidy) hc fm_T0_good (fm_EX_st b x) hex q_1158 q_13 q_1155 q_1157 qs_Mo_tidy pd_Mo_tidy (by decide) (by omega) (by decide) (by decide) rfl rfl (htidy) ⟨rfl, rfl, Nat.le_of_ble_eq_true rfl, Nat.le_of_ble_eq_true rfl⟩ ⟨Nat.le_of_ble_eq_true rfl, Nat.le_of_ble_eq_true rfl⟩ d_Mo_newPair_2 (Nat.le_of_ble_eq_true rfl) (fun r n2 M2 hp => ?_)
  obtain ⟨rfl, hq1, ht1, ht2, ht3⟩ := hp
  replace hq1 := hq1.symm
  subst hq1
  revert ht1 ht2 ht3
  generalize M2 = Mt
  intro ht1 ht2 ht3
  have hRt := frW_RP ht3 hR
  have hsz : Mt.1 612 gi = nI A.2.1.length := ht1.2.1
  have hup : Mt.2.1 613 (6 * gi + (A.2.1.length - 1)) = e64 (ag_upp A) := by rw [ht1.2.2.2.2.1 _ _ gu, map_id]; rfl
  have hlo : (fm_put1 Mt 612 gi (nI (A.2.1.length - 1))).2.1 613 (6 * gi + (A.2.1.length - 1 - 1)) = e64 (ag_low 14 A) := by show Mt.2.1 613 (6 * gi + (A.2.1.length - 2)) = _; rw [ht1.2.2.2.2.1 _ _ gl, map_id]; rfl
  refine fm_cnt (z' := (0, 0)) rfl (fm_st (st' := []) rfl ?_)
  refine fm_aload_n hc d_Mo_newPair_5 rfl rfl ?_
  refine fm_iload_n hc d_Mo_newPair_6 rfl rfl ?_
  refine fm_callV (av := [.int (nI gi)]) (rest := []) (ob := 586) (ci := 11) (r0 := ("AgentNetModel", F_Mo, 51)) (y := y_Mo_pop) (bytes := b_Mo_pop) hc fm_T0_good (fm_EX_st b x) hex q_1129 q_13 q_1126 q_1128 qs_Mo_pop pd_Mo_pop (by decide) (by omega) (by decide) (by decide) rfl rfl (by have h9 := rc_pop (l := l) (b := b) (x := x) (D := D) (dA := dA) (n := n) hn hRt hg hsz hd6 (by omega); rw [hup] at h9; exact h9) ⟨rfl, rfl, Nat.le_of_ble_eq_true rfl, Nat.le_of_ble_eq_true rfl⟩ ⟨Nat.le_of_ble_eq_true rfl, Nat.le_of_ble_eq_true rfl⟩ d_Mo_newPair_7 (Nat.le_of_ble_eq_true rfl) (fun r n2 M2 hp => ?_)
  obtain ⟨rfl, hq1, hq2⟩ := hp
  replace hq1 := hq1.symm
  replace hq2 := hq2.symm
  subst hq1 hq2
  refine fm_cnt (z' := (0, 0)) rfl (fm_st (st' := [.long (e64 (ag_upp A))]) rfl ?_)
  refine fm_lstore_n (lv' := [(2, .long (e64 (ag_upp A))), (0, .ref 586), (1, .int (nI gi))]) hc d_Mo_newPair_10 rfl (by decide) rfl ?_
  refine fm_aload_n hc d_Mo_newPair_11 rfl rfl ?_
  refine fm_iload_n hc d_Mo_newPair_12 rfl rfl ?_
  refine fm_callV (av := [.int (nI gi)]) (rest := []) (ob := 586) (ci := 11) (r0 := ("AgentNetModel", F_Mo, 51)) (y := y_Mo_pop) (bytes := b_Mo_pop) hc fm_T0_good (fm_EX_st b x) hex q_1129 q_13 q_1126 q_1128 qs_Mo_pop pd_Mo_pop (by decide) (by omega) (by decide) (by decide) rfl rfl (by have h9 := rc_pop (l := l) (b := b) (x := x) (D := D) (dA := dA) (n := n) (M := fm_put1 Mt 612 gi (nI (A.2.1.length - 1))) (d := A.2.1.length - 1) hn hRt hg (p1_same _ _ _ _) (by omega) (by omega); rw [hlo] at h9; exact h9) ⟨rfl, rfl, Nat.le_of_ble_eq_true rfl, Nat.le_of_ble_eq_true rfl⟩ ⟨Nat.le_of_ble_eq_true rfl, Nat.le_of_ble_eq_true rfl⟩ d_Mo_newPair_13 (Nat.le_of_ble_eq_true rfl) (fun r n2 M2 hp => ?_)
  obtain ⟨rfl, hq1, hq2⟩ := hp
  replace hq1 := hq1.symm
  replace hq2 := hq2.symm
  subst hq1 hq2
  refine fm_cnt (z' := (0, 0)) rfl (fm_st (st' := [.long (e64 (ag_low 14 A))]) rfl ?_)
  refine fm_lstore (lv' := [(4, .long (e64 (ag_low 14 A))), (2, .long (e64 (ag_upp A))), (0, .ref 586), (1, .int (nI gi))]) hc d_Mo_newPair_16 (by decide) rfl ?_
  refine fm_aload_n hc d_Mo_newPair_18 rfl rfl ?_
  refine fm_getR (k := 30) (q := 615) hc K_Mo d_Mo_newPair_19 q_915 rfl (by decide) (by omega) (by decide) (by decide) (by decide) rfl (rp_first hRt) ?_
  refine fm_bipush (v := nI 9) hc d_Mo_newPair_22 rfl ?_
  refine fm_iload_n hc d_Mo_newPair_24 rfl rfl ?_
  refine fm_imul hc d_Mo_newPair_25 ?_
  refine fm_top (congrArg Value.int (pk_mul 9 gi)) ?_
  refine fm_aload_n hc d_Mo_newPair_26 rfl rfl ?_
  refine fm_getR (k := 29) (q := 614) hc K_Mo d_Mo_newPair_27 q_914 rfl (by decide) (by omega) (by decide) (by decide) (by decide) rfl (rp_pairs hRt) ?_
  refine fm_iload_n hc d_Mo_newPair_30 rfl rfl ?_
  refine fm_iald (j := gi) (len := 98) hc 0 d_Mo_newPair_31 (by decide) (by omega) (by decide) rfl (by omega) (by decide) ?_
  refine fm_top (congrArg Value.int (show _ = nI A.2.2.length from ht2)) ?_
  refine fm_iadd hc d_Mo_newPair_32 ?_
  refine fm_top (congrArg Value.int (nI_add (9 * gi) A.2.2.length)) ?_
  refine fm_lload hc d_Mo_newPair_33 rfl ?_
  refine fm_last (j := (9 * gi) + A.2.2.length) (len := 882) (v := e64 (ag_low 14 A)) hc 3 d_Mo_newPair_35 (by decide) (by omega) (by decide) rfl (by omega) (by decide) ?_
  refine fm_aload_n hc d_Mo_newPair_36 rfl rfl ?_
  refine fm_getR (k := 31) (q := 616) hc K_Mo d_Mo_newPair_37 q_916 rfl (by decide) (by omega) (by decide) (by decide) (by decide) rfl (rp_second hRt) ?_
  refine fm_bipush (v := nI 9) hc d_Mo_newPair_40 rfl ?_
  refine fm_iload_n hc d_Mo_newPair_42 rfl rfl ?_
  refine fm_imul hc d_Mo_newPair_43 ?_
  refine fm_top (congrArg Value.int (pk_mul 9 gi)) ?_
  refine fm_aload_n hc d_Mo_newPair_44 rfl rfl ?_
  refine fm_getR (k := 29) (q := 614) hc K_Mo d_Mo_newPair_45 q_914 rfl (by decide) (by omega) (by decide) (by decide) (by decide) rfl (rp_pairs hRt) ?_
  refine fm_iload_n hc d_Mo_newPair_48 rfl rfl ?_
  refine fm_iald (j := gi) (len := 98) hc 0 d_Mo_newPair_49 (by decide) (by omega) (by decide) rfl (by omega) (by decide) ?_
  refine fm_top (congrArg Value.int (show _ = nI A.2.2.length from ht2)) ?_
  refine fm_iadd hc d_Mo_newPair_50 ?_
  refine fm_top (congrArg Value.int (nI_add (9 * gi) A.2.2.length)) ?_
  refine fm_lload_n hc d_Mo_newPair_51 rfl rfl ?_
  refine fm_last (j := (9 * gi) + A.2.2.length) (len := 882) (v := e64 (ag_upp A)) hc 3 d_Mo_newPair_52 (by decide) (by omega) (by decide) rfl (by omega) (by decide) ?_
  refine fm_aload_n hc d_Mo_newPair_53 rfl rfl ?_
  refine fm_iload_n hc d_Mo_newPair_54 rfl rfl ?_
  refine fm_ldc2 (v := 1099511627776) hc d_Mo_newPair_55 q_1098 ?_
  refine fm_aload_n hc d_Mo_newPair_58 rfl rfl ?_
  refine fm_getR (k := 29) (q := 614) hc K_Mo d_Mo_newPair_59 q_914 rfl (by decide) (by omega) (by decide) (by decide) (by decide) rfl (rp_pairs hRt) ?_
  refine fm_iload_n hc d_Mo_newPair_62 rfl rfl ?_
  refine fm_iald (j := gi) (len := 98) hc 0 d_Mo_newPair_63 (by decide) (by omega) (by decide) rfl (by omega) (by decide) ?_
  refine fm_top (congrArg Value.int (show _ = nI A.2.2.length from ht2)) ?_
  refine fm_i2l hc d_Mo_newPair_64 ?_
  refine fm_ladd hc d_Mo_newPair_65 ?_
  refine fm_callV (av := [.int (nI gi), .long (1099511627776 + ((nI A.2.2.length).toInt64))]) (rest := []) (ob := 586) (ci := 11) (r0 := ("AgentNetModel", F_Mo, 51)) (y := y_Mo_push) (bytes := b_Mo_push) hc fm_T0_good (fm_EX_st b x) hex q_1121 q_13 q_1118 q_1120 qs_Mo_push pd_Mo_push (by decide) (by omega) (by decide) (by decide) rfl rfl (rc_push (M := fm_put2 (fm_put2 (fm_put1 (fm_put1 Mt 612 gi (nI (A.2.1.length - 1))) 612 gi (nI (A.2.1.length - 1 - 1))) 615 (9 * gi + A.2.2.length) (e64 (ag_low 14 A))) 616 (9 * gi + A.2.2.length) (e64 (ag_upp A))) (d := A.2.1.length - 1 - 1) hn hRt hg (p1_same (fm_put1 Mt 612 gi (nI (A.2.1.length - 1))) 612 gi (nI (A.2.1.length - 1 - 1))) (by omega)) ⟨rfl, rfl, Nat.le_of_ble_eq_true rfl, Nat.le_of_ble_eq_true rfl⟩ ⟨Nat.le_of_ble_eq_true rfl, Nat.le_of_ble_eq_true rfl⟩ d_Mo_newPair_66 (Nat.le_of_ble_eq_true rfl) (fun r n2 M2 hp => ?_)
  obtain ⟨rfl, hq1, hq2⟩ := hp
  replace hq1 := hq1.symm
  replace hq2 := hq2.symm
  subst hq1 hq2
  refine fm_cnt (z' := (0, 0)) rfl (fm_st (st' := []) rfl ?_)
  refine fm_aload_n hc d_Mo_newPair_69 rfl rfl ?_
  refine fm_getR (k := 29) (q := 614) hc K_Mo d_Mo_newPair_70 q_914 rfl (by decide) (by omega) (by decide) (by decide) (by decide) rfl (rp_pairs hRt) ?_
  refine fm_iload_n hc d_Mo_newPair_73 rfl rfl ?_
  refine fm_dup2_11 hc d_Mo_newPair_74 rfl rfl ?_
  refine fm_iald (j := gi) (len := 98) hc 0 d_Mo_newPair_75 (by decide) (by omega) (by decide) rfl (by omega) (by decide) ?_
  refine fm_top (congrArg Value.int (show _ = nI A.2.2.length from ht2)) ?_
  refine fm_iconst (v := nI 1) hc d_Mo_newPair_76 rfl ?_
  refine fm_iadd hc d_Mo_newPair_77 ?_
  refine fm_top (congrArg Value.int (nI_add A.2.2.length 1)) ?_
  refine fm_iast (j := gi) (len := 98) (v := nI (A.2.2.length + 1)) hc 0 d_Mo_newPair_78 (by decide) (by omega) (by decide) rfl (by omega) (by decide) ?_
  refine fm_vret hc hr d_Mo_newPair_79 (Nat.le_refl _) (Nat.le_refl _) ⟨rfl, rfl, ?_, ?_⟩
  · refine hrG_o1 (Or.inl (Or.inr (by decide))) ?_
    have hb : hr_G (fm_put1 (fm_put1 Mt 612 gi (nI (A.2.1.length - 1))) 612 gi (nI (A.2.1.length - 1 - 1))) gi F (A.1, A.2.1.take (A.2.1.length - 1 - 1), A.2.2) id := by
      rw [p1_twice]
      exact hrG_take (by omega) ht1
    have hl : (A.2.1.take (A.2.1.length - 1 - 1)).length = A.2.1.length - 1 - 1 := by rw [List.length_take]; omega
    exact hrG_push hl rfl (hrG_pairI rfl (by omega) hb)
  · exact frW_p1 (Or.inl ⟨by decide, by decide, rfl⟩) (frW_p1 (Or.inl ⟨by decide, by decide, rfl⟩) (frW_p2 (Or.inl ⟨rfl, by omega, by omega⟩) (frW_p2 (Or.inr (Or.inl ⟨Or.inr rfl, by omega, by omega⟩)) (frW_p2 (Or.inr (Or.inl ⟨Or.inl rfl, by omega, by omega⟩)) (frW_p1 (Or.inl ⟨by decide, by decide, rfl⟩) (frW_p1 (Or.inl ⟨by decide, by decide, rfl⟩) ht3))))))
