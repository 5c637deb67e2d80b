/-! out of range: net, message; agent, host, outputs -/
theorem c_Wi_has_ok {l : Launch} {b : Nat} {x : Nat → Nat} {D : va_G} {dA : Nat → ClassId} {v : Int32} {n : Nat} {M : fm_M} (hn : 586 ≤ n) (h : ¬ v < 0 ∧ ¬ M.1 16 1 ≤ v) : Met l y_Wi_has (Cond.code y_Wi_has b_Wi_has 2 (some .boolean) :: fm_T0) ({ frames := 0, cells := 0, slots := 0, locals := 0 }) (fm_Pc fm_lay fm_nf fm_fk fm_cl b x D dA (fm_tys dA) (fm_EX b x) false [.ref 16, .int v] n M) (fm_Qc fm_lay fm_nf fm_fk fm_cl b x D dA (fun r n' M' => r = some (.int (nI 1)) ∧ n' = n ∧ M' = M)) 0 0 (fm_A b) := by
  have k := c_Wi_has (l := l) (b := b) (x := x) (D := D) (dA := dA) (v := v) (M := M) hn
  rw [if_neg h.1, if_neg h.2] at k
  exact k
theorem c_Wi_has_no {l : Launch} {b : Nat} {x : Nat → Nat} {D : va_G} {dA : Nat → ClassId} {v : Int32} {n : Nat} {M : fm_M} (hn : 586 ≤ n) (h : ¬ (¬ v < 0 ∧ ¬ M.1 16 1 ≤ v)) : Met l y_Wi_has (Cond.code y_Wi_has b_Wi_has 2 (some .boolean) :: fm_T0) ({ frames := 0, cells := 0, slots := 0, locals := 0 }) (fm_Pc fm_lay fm_nf fm_fk fm_cl b x D dA (fm_tys dA) (fm_EX b x) false [.ref 16, .int v] n M) (fm_Qc fm_lay fm_nf fm_fk fm_cl b x D dA (fun r n' M' => r = some (.int (nI 0)) ∧ n' = n ∧ M' = M)) 0 0 (fm_A b) := by
  have k := c_Wi_has (l := l) (b := b) (x := x) (D := D) (dA := dA) (v := v) (M := M) hn
  by_cases g : v < 0
  · rw [if_pos g] at k
    exact k
  · rw [if_neg g, if_pos (Classical.byContradiction fun g2 => h ⟨g, g2⟩)] at k
    exact k
theorem x_net_out0 {l : Launch} {b : Nat} {x : Nat → Nat} {D : va_G} {dA : Nat → ClassId} (htr : l.stackTraces = false) {v : Int32} {n : Nat} {M : fm_M} (hn : 586 ≤ n) (hA : fm_AP M) (hk : ¬ (¬ v < 0 ∧ ¬ M.1 16 1 ≤ v)) : MetFree l y_An_net (headSpec (Cond.code y_An_net b_An_net 4 (some .int) :: fm_T0) ({ frames := 6, cells := 1, slots := 6, locals := 90 })) (fm_Pc fm_lay fm_nf fm_fk fm_cl b x D dA (fm_tys dA) (fm_EX b x) false [.ref 8, .int v, .int (nI 0)] n M) (fun _ _ _ _ _ => True) (fx_Q fm_lay fm_nf fm_fk fm_cl b x D dA (fun _ _ _ => False) (fun E n' M' => E = fx_IOE ∧ n' = n ∧ M' = M) 1 6) := by
  refine fx_enter (by decide) (Nat.le_of_ble_eq_true rfl) ?_
  intro p e s m args below meth c hc hr hnm hex htg htab
  refine fm_iload_n hc d_An_net_0 rfl rfl ?_
  refine fm_if_eq (tgt := 22) hc d_An_net_1 rfl (fun _ => ?_) (fun g => absurd rfl g)
  refine fm_aload_n hc d_An_net_22 rfl rfl ?_
  refine fm_getR (k := 3) (q := 16) hc K_An d_An_net_23 q_358 rfl (by decide) (by omega) (by decide) (by decide) (by decide) rfl (ap_3 hA) ?_
  refine fm_iload_n hc d_An_net_26 rfl rfl ?_
  refine fm_callV (av := [.int v]) (rest := []) (ob := 16) (ci := 4) (r0 := ("AgentNet$Wire", F_Wi, 3)) (y := y_Wi_has) (bytes := b_Wi_has) hc fm_T0_good (fm_EX_st b x) hex q_405 q_2 q_402 q_403 q_404 pd_Wi_has (by decide) (by omega) (by decide) (by decide) rfl rfl (c_Wi_has_no hn hk) ⟨rfl, rfl, Nat.le_of_ble_eq_true rfl, Nat.le_of_ble_eq_true rfl⟩ ⟨Nat.le_of_ble_eq_true rfl, Nat.le_of_ble_eq_true rfl⟩ d_An_net_27 (Nat.le_of_ble_eq_true rfl) (fun r n2 M2 hp => ?_)
  obtain ⟨rfl, hq1, hq2⟩ := hp
  replace hq1 := hq1.symm
  replace hq2 := hq2.symm
  subst hq1 hq2
  refine fm_cnt (z' := (0, 0)) rfl (fm_st (st' := [.int (nI 0)]) rfl ?_)
  refine fm_if_ne (tgt := 41) hc d_An_net_30 rfl (fun g => absurd rfl g) (fun _ => ?_)
  exact fx_throw hc htr hex.2.2.2.2 (E := fx_IOE) (List.mem_of_getElem? (i := 2) rfl) fx_own_IOE q_827 q_828 q_21 d_An_net_33 d_An_net_36 d_An_net_37 d_An_net_40 htab (Nat.le_of_ble_eq_true rfl) (Nat.le_of_ble_eq_true rfl) ⟨Nat.le_of_ble_eq_true rfl, Nat.le_of_ble_eq_true rfl, Nat.le_of_ble_eq_true rfl, Nat.le_of_ble_eq_true rfl⟩ ⟨rfl, rfl, rfl⟩
theorem x_net_out1 {l : Launch} {b : Nat} {x : Nat → Nat} {D : va_G} {dA : Nat → ClassId} (htr : l.stackTraces = false) {v : Int32} {n : Nat} {M : fm_M} (hn : 586 ≤ n) (hA : fm_AP M) (hk : ¬ (¬ v < 0 ∧ ¬ M.1 16 1 ≤ v)) : MetFree l y_An_net (headSpec (Cond.code y_An_net b_An_net 4 (some .int) :: fm_T0) ({ frames := 6, cells := 1, slots := 6, locals := 90 })) (fm_Pc fm_lay fm_nf fm_fk fm_cl b x D dA (fm_tys dA) (fm_EX b x) false [.ref 8, .int v, .int (nI 1)] n M) (fun _ _ _ _ _ => True) (fx_Q fm_lay fm_nf fm_fk fm_cl b x D dA (fun _ _ _ => False) (fun E n' M' => E = fx_IOE ∧ n' = n ∧ M' = M) 1 6) := by
  refine fx_enter (by decide) (Nat.le_of_ble_eq_true rfl) ?_
  intro p e s m args below meth c hc hr hnm hex htg htab
  refine fm_iload_n hc d_An_net_0 rfl rfl ?_
  refine fm_if_eq (tgt := 22) hc d_An_net_1 rfl (fun g => absurd g (by decide)) (fun _ => ?_)
  refine fm_iload_n hc d_An_net_4 rfl rfl ?_
  refine fm_iconst (v := nI 1) hc d_An_net_5 rfl ?_
  refine fm_icmp_eq (tgt := 22) hc d_An_net_6 rfl (fun _ => ?_) (fun g => absurd rfl g)
  refine fm_aload_n hc d_An_net_22 rfl rfl ?_
  refine fm_getR (k := 3) (q := 16) hc K_An d_An_net_23 q_358 rfl (by decide) (by omega) (by decide) (by decide) (by decide) rfl (ap_3 hA) ?_
  refine fm_iload_n hc d_An_net_26 rfl rfl ?_
  refine fm_callV (av := [.int v]) (rest := []) (ob := 16) (ci := 4) (r0 := ("AgentNet$Wire", F_Wi, 3)) (y := y_Wi_has) (bytes := b_Wi_has) hc fm_T0_good (fm_EX_st b x) hex q_405 q_2 q_402 q_403 q_404 pd_Wi_has (by decide) (by omega) (by decide) (by decide) rfl rfl (c_Wi_has_no hn hk) ⟨rfl, rfl, Nat.le_of_ble_eq_true rfl, Nat.le_of_ble_eq_true rfl⟩ ⟨Nat.le_of_ble_eq_true rfl, Nat.le_of_ble_eq_true rfl⟩ d_An_net_27 (Nat.le_of_ble_eq_true rfl) (fun r n2 M2 hp => ?_)
  obtain ⟨rfl, hq1, hq2⟩ := hp
  replace hq1 := hq1.symm
  replace hq2 := hq2.symm
  subst hq1 hq2
  refine fm_cnt (z' := (0, 0)) rfl (fm_st (st' := [.int (nI 0)]) rfl ?_)
  refine fm_if_ne (tgt := 41) hc d_An_net_30 rfl (fun g => absurd rfl g) (fun _ => ?_)
  exact fx_throw hc htr hex.2.2.2.2 (E := fx_IOE) (List.mem_of_getElem? (i := 2) rfl) fx_own_IOE q_827 q_828 q_21 d_An_net_33 d_An_net_36 d_An_net_37 d_An_net_40 htab (Nat.le_of_ble_eq_true rfl) (Nat.le_of_ble_eq_true rfl) ⟨Nat.le_of_ble_eq_true rfl, Nat.le_of_ble_eq_true rfl, Nat.le_of_ble_eq_true rfl, Nat.le_of_ble_eq_true rfl⟩ ⟨rfl, rfl, rfl⟩
theorem x_net_out2 {l : Launch} {b : Nat} {x : Nat → Nat} {D : va_G} {dA : Nat → ClassId} (htr : l.stackTraces = false) {v : Int32} {n : Nat} {M : fm_M} (hn : 586 ≤ n) (hA : fm_AP M) (hk : ¬ (¬ v < 0 ∧ ¬ M.1 16 1 ≤ v)) : MetFree l y_An_net (headSpec (Cond.code y_An_net b_An_net 4 (some .int) :: fm_T0) ({ frames := 6, cells := 1, slots := 6, locals := 90 })) (fm_Pc fm_lay fm_nf fm_fk fm_cl b x D dA (fm_tys dA) (fm_EX b x) false [.ref 8, .int v, .int (nI 2)] n M) (fun _ _ _ _ _ => True) (fx_Q fm_lay fm_nf fm_fk fm_cl b x D dA (fun _ _ _ => False) (fun E n' M' => E = fx_IOE ∧ n' = n ∧ M' = M) 1 6) := by
  refine fx_enter (by decide) (Nat.le_of_ble_eq_true rfl) ?_
  intro p e s m args below meth c hc hr hnm hex htg htab
  refine fm_iload_n hc d_An_net_0 rfl rfl ?_
  refine fm_if_eq (tgt := 22) hc d_An_net_1 rfl (fun g => absurd g (by decide)) (fun _ => ?_)
  refine fm_iload_n hc d_An_net_4 rfl rfl ?_
  refine fm_iconst (v := nI 1) hc d_An_net_5 rfl ?_
  refine fm_icmp_eq (tgt := 22) hc d_An_net_6 rfl (fun g => absurd g (by decide)) (fun _ => ?_)
  refine fm_iload_n hc d_An_net_9 rfl rfl ?_
  refine fm_iconst (v := nI 2) hc d_An_net_10 rfl ?_
  refine fm_icmp_eq (tgt := 22) hc d_An_net_11 rfl (fun _ => ?_) (fun g => absurd rfl g)
  refine fm_aload_n hc d_An_net_22 rfl rfl ?_
  refine fm_getR (k := 3) (q := 16) hc K_An d_An_net_23 q_358 rfl (by decide) (by omega) (by decide) (by decide) (by decide) rfl (ap_3 hA) ?_
  refine fm_iload_n hc d_An_net_26 rfl rfl ?_
  refine fm_callV (av := [.int v]) (rest := []) (ob := 16) (ci := 4) (r0 := ("AgentNet$Wire", F_Wi, 3)) (y := y_Wi_has) (bytes := b_Wi_has) hc fm_T0_good (fm_EX_st b x) hex q_405 q_2 q_402 q_403 q_404 pd_Wi_has (by decide) (by omega) (by decide) (by decide) rfl rfl (c_Wi_has_no hn hk) ⟨rfl, rfl, Nat.le_of_ble_eq_true rfl, Nat.le_of_ble_eq_true rfl⟩ ⟨Nat.le_of_ble_eq_true rfl, Nat.le_of_ble_eq_true rfl⟩ d_An_net_27 (Nat.le_of_ble_eq_true rfl) (fun r n2 M2 hp => ?_)
  obtain ⟨rfl, hq1, hq2⟩ := hp
  replace hq1 := hq1.symm
  replace hq2 := hq2.symm
  subst hq1 hq2
  refine fm_cnt (z' := (0, 0)) rfl (fm_st (st' := [.int (nI 0)]) rfl ?_)
  refine fm_if_ne (tgt := 41) hc d_An_net_30 rfl (fun g => absurd rfl g) (fun _ => ?_)
  exact fx_throw hc htr hex.2.2.2.2 (E := fx_IOE) (List.mem_of_getElem? (i := 2) rfl) fx_own_IOE q_827 q_828 q_21 d_An_net_33 d_An_net_36 d_An_net_37 d_An_net_40 htab (Nat.le_of_ble_eq_true rfl) (Nat.le_of_ble_eq_true rfl) ⟨Nat.le_of_ble_eq_true rfl, Nat.le_of_ble_eq_true rfl, Nat.le_of_ble_eq_true rfl, Nat.le_of_ble_eq_true rfl⟩ ⟨rfl, rfl, rfl⟩
theorem c_message_out {l : Launch} {b : Nat} {x : Nat → Nat} {D : va_G} {dA : Nat → ClassId} {v w : Int32} {n : Nat} {M : fm_M} (hn : 586 ≤ n) (hA : fm_AP M) (hk : ¬ (¬ v < 0 ∧ ¬ M.1 16 1 ≤ v)) : Met l y_An_message (Cond.code y_An_message b_An_message 3 (some .int) :: fm_T0) ({ frames := 1, cells := 0, slots := 0, locals := 21 }) (fm_Pc fm_lay fm_nf fm_fk fm_cl b x D dA (fm_tys dA) (fm_EX b x) false [.ref 8, .int v, .int w] n M) (fm_Qc fm_lay fm_nf fm_fk fm_cl b x D dA (fun r n' M' => r = some (.int ((-1))) ∧ n' = n ∧ M' = M)) 0 0 (fm_A b) := by
  refine fm_enter (by decide) (Nat.le_of_ble_eq_true rfl) ?_
  intro p e s m args below meth c hc hr hnm hex htg
  refine fm_aload_n hc d_An_message_0 rfl rfl ?_
  refine fm_getR (k := 3) (q := 16) hc K_An d_An_message_1 q_358 rfl (by decide) (by omega) (by decide) (by decide) (by decide) rfl (ap_3 hA) ?_
  refine fm_iload_n hc d_An_message_4 rfl rfl ?_
  refine fm_callV (av := [.int v]) (rest := []) (ob := 16) (ci := 4) (r0 := ("AgentNet$Wire", F_Wi, 3)) (y := y_Wi_has) (bytes := b_Wi_has) hc fm_T0_good (fm_EX_st b x) hex q_405 q_2 q_402 q_403 q_404 pd_Wi_has (by decide) (by omega) (by decide) (by decide) rfl rfl (c_Wi_has_no hn hk) ⟨rfl, rfl, Nat.le_of_ble_eq_true rfl, Nat.le_of_ble_eq_true rfl⟩ ⟨Nat.le_of_ble_eq_true rfl, Nat.le_of_ble_eq_true rfl⟩ d_An_message_5 (Nat.le_of_ble_eq_true rfl) (fun r n2 M2 hp => ?_)
  obtain ⟨rfl, hq1, hq2⟩ := hp
  replace hq1 := hq1.symm
  replace hq2 := hq2.symm
  subst hq1 hq2
  refine fm_cnt (z' := (0, 0)) rfl (fm_st (st' := [.int (nI 0)]) rfl ?_)
  refine fm_if_eq (tgt := 27) hc d_An_message_8 rfl (fun _ => ?_) (fun g => absurd rfl g)
  refine fm_iconst (v := (-1)) hc d_An_message_27 rfl ?_
  exact fm_iret hc hr d_An_message_28 (Nat.le_refl _) (Nat.le_refl _) ⟨rfl, rfl, rfl⟩
theorem r_message_out {l : Launch} {b : Nat} {x : Nat → Nat} {D : va_G} {dA : Nat → ClassId} {v w : Int32} {n : Nat} {M : fm_M} (hn : 629 ≤ n) (hR : fm_RP M) (hk : ¬ fm_wi v (nI 0) (M.1 586 37 - nI 1)) : Met l y_Mo_message (Cond.code y_Mo_message b_Mo_message 3 (some .int) :: fm_T0) ({ frames := 1, cells := 0, slots := 0, locals := 22 }) (fm_Pc fm_lay fm_nf fm_fk fm_cl b x D dA (fm_tys dA) (fm_EX b x) false [.ref 586, .int v, .int w] n M) (fm_Qc fm_lay fm_nf fm_fk fm_cl b x D dA (fun r n' M' => r = some (.int ((-1))) ∧ n' = n ∧ M' = fm_put1 M 586 0 (nI 0))) 0 0 (fm_A b) := by
  refine fm_enter (by decide) (Nat.le_of_ble_eq_true rfl) ?_
  intro p e s m args below meth c hc hr hnm hex htg
  refine fm_aload_n hc d_Mo_message_0 rfl rfl ?_
  refine fm_iconst (v := nI 0) hc d_Mo_message_1 rfl ?_
  refine fm_putI (k := 0) (v := nI 0) hc K_Mo d_Mo_message_2 q_885 rfl (by decide) (by omega) (by decide) (by decide) (by decide) rfl rfl rfl rfl ?_
  refine fm_iload_n hc d_Mo_message_5 rfl rfl ?_
  refine fm_iconst (v := nI 0) hc d_Mo_message_6 rfl ?_
  refine fm_aload_n hc d_Mo_message_7 rfl rfl ?_
  refine fm_getI (k := 37) hc K_Mo d_Mo_message_8 q_922 rfl (by decide) (by omega) (by decide) (by decide) (by decide) rfl ?_
  refine fm_iconst (v := nI 1) hc d_Mo_message_11 rfl ?_
  refine fm_isub hc d_Mo_message_12 ?_
  refine fm_callS (av := [.int v, .int (nI 0), .int (((fm_put1 M 586 0 (nI 0)).1 586 37) - (nI 1))]) (rest := []) (y := y_Mo_within) (bytes := b_Mo_within) hc fm_T0_good (fm_EX_st b x) hex q_1049 q_13 q_1047 q_1048 pd_Mo_within (c_Mo_within_no hk) ⟨rfl, rfl, Nat.le_of_ble_eq_true rfl, Nat.le_of_ble_eq_true rfl⟩ ⟨Nat.le_of_ble_eq_true rfl, Nat.le_of_ble_eq_true rfl⟩ d_Mo_message_13 (Nat.le_of_ble_eq_true rfl) (fun r n2 M2 hp => ?_)
  obtain ⟨rfl, hq1, hq2⟩ := hp
  replace hq1 := hq1.symm
  replace hq2 := hq2.symm
  subst hq1 hq2
  refine fm_cnt (z' := (0, 0)) rfl (fm_st (st' := [.int (nI 0)]) rfl ?_)
  refine fm_if_ne (tgt := 21) hc d_Mo_message_16 rfl (fun g => absurd rfl g) (fun _ => ?_)
  refine fm_iconst (v := (-1)) hc d_Mo_message_19 rfl ?_
  exact fm_iret hc hr d_Mo_message_20 (Nat.le_refl _) (Nat.le_refl _) ⟨rfl, rfl, rfl⟩
theorem r_net_bad {l : Launch} {b : Nat} {x : Nat → Nat} {D : va_G} {dA : Nat → ClassId} {v w : Int32} {n : Nat} {M : fm_M} (hn : 629 ≤ n) (hR : fm_RP M) (hw : ¬ fm_wi w (nI 0) (nI 2)) : Met l y_Mo_net (Cond.code y_Mo_net b_Mo_net 4 (some .int) :: fm_T0) ({ frames := 1, cells := 0, slots := 0, locals := 22 }) (fm_Pc fm_lay fm_nf fm_fk fm_cl b x D dA (fm_tys dA) (fm_EX b x) false [.ref 586, .int v, .int w] n M) (fm_Qc fm_lay fm_nf fm_fk fm_cl b x D dA (fun r n' M' => r = some (.int (nI 0)) ∧ n' = n ∧ M' = fm_put1 M 586 0 (nI 1))) 0 0 (fm_A b) := by
  refine fm_enter (by decide) (Nat.le_of_ble_eq_true rfl) ?_
  intro p e s m args below meth c hc hr hnm hex htg
  refine fm_aload_n hc d_Mo_net_0 rfl rfl ?_
  refine fm_iload_n hc d_Mo_net_1 rfl rfl ?_
  refine fm_iconst (v := nI 0) hc d_Mo_net_2 rfl ?_
  refine fm_iconst (v := nI 2) hc d_Mo_net_3 rfl ?_
  refine fm_callS (av := [.int w, .int (nI 0), .int (nI 2)]) (rest := [.ref 586]) (y := y_Mo_within) (bytes := b_Mo_within) hc fm_T0_good (fm_EX_st b x) hex q_1049 q_13 q_1047 q_1048 pd_Mo_within (c_Mo_within_no hw) ⟨rfl, rfl, Nat.le_of_ble_eq_true rfl, Nat.le_of_ble_eq_true rfl⟩ ⟨Nat.le_of_ble_eq_true rfl, Nat.le_of_ble_eq_true rfl⟩ d_Mo_net_4 (Nat.le_of_ble_eq_true rfl) (fun r n2 M2 hp => ?_)
  obtain ⟨rfl, hq1, hq2⟩ := hp
  replace hq1 := hq1.symm
  replace hq2 := hq2.symm
  subst hq1 hq2
  refine fm_cnt (z' := (0, 0)) rfl (fm_st (st' := [.int (nI 0), .ref 586]) rfl ?_)
  refine fm_if_ne (tgt := 14) hc d_Mo_net_7 rfl (fun g => absurd rfl g) (fun _ => ?_)
  refine fm_iconst (v := nI 1) hc d_Mo_net_10 rfl ?_
  refine fm_goto (tgt := 51) hc d_Mo_net_11 rfl ?_
  refine fm_putI (k := 0) (v := nI 1) hc K_Mo d_Mo_net_51 q_885 rfl (by decide) (by omega) (by decide) (by decide) (by decide) rfl rfl rfl rfl ?_
  refine fm_aload_n hc d_Mo_net_54 rfl rfl ?_
  refine fm_getI (k := 0) hc K_Mo d_Mo_net_55 q_885 rfl (by decide) (by omega) (by decide) (by decide) (by decide) rfl ?_
  refine fm_top (congrArg Value.int (p1_same _ 586 0 (nI 1))) ?_
  refine fm_if_le (tgt := 63) hc d_Mo_net_58 rfl (fun g => absurd g (by decide)) (fun _ => ?_)
  refine fm_iconst (v := nI 0) hc d_Mo_net_61 rfl ?_
  exact fm_iret hc hr d_Mo_net_62 (Nat.le_refl _) (Nat.le_refl _) ⟨rfl, rfl, rfl⟩
theorem r_net_out {l : Launch} {b : Nat} {x : Nat → Nat} {D : va_G} {dA : Nat → ClassId} {v w : Int32} {n : Nat} {M : fm_M} (hn : 629 ≤ n) (hR : fm_RP M) (hw : fm_wi w (nI 0) (nI 2)) (hk : ¬ fm_wi v (nI 0) (M.1 586 37 - nI 1)) : Met l y_Mo_net (Cond.code y_Mo_net b_Mo_net 4 (some .int) :: fm_T0) ({ frames := 1, cells := 0, slots := 0, locals := 22 }) (fm_Pc fm_lay fm_nf fm_fk fm_cl b x D dA (fm_tys dA) (fm_EX b x) false [.ref 586, .int v, .int w] n M) (fm_Qc fm_lay fm_nf fm_fk fm_cl b x D dA (fun r n' M' => r = some (.int (nI 0)) ∧ n' = n ∧ M' = fm_put1 M 586 0 (nI 2))) 0 0 (fm_A b) := by
  refine fm_enter (by decide) (Nat.le_of_ble_eq_true rfl) ?_
  intro p e s m args below meth c hc hr hnm hex htg
  refine fm_aload_n hc d_Mo_net_0 rfl rfl ?_
  refine fm_iload_n hc d_Mo_net_1 rfl rfl ?_
  refine fm_iconst (v := nI 0) hc d_Mo_net_2 rfl ?_
  refine fm_iconst (v := nI 2) hc d_Mo_net_3 rfl ?_
  refine fm_callS (av := [.int w, .int (nI 0), .int (nI 2)]) (rest := [.ref 586]) (y := y_Mo_within) (bytes := b_Mo_within) hc fm_T0_good (fm_EX_st b x) hex q_1049 q_13 q_1047 q_1048 pd_Mo_within (c_Mo_within_ok hw) ⟨rfl, rfl, Nat.le_of_ble_eq_true rfl, Nat.le_of_ble_eq_true rfl⟩ ⟨Nat.le_of_ble_eq_true rfl, Nat.le_of_ble_eq_true rfl⟩ d_Mo_net_4 (Nat.le_of_ble_eq_true rfl) (fun r n2 M2 hp => ?_)
  obtain ⟨rfl, hq1, hq2⟩ := hp
  replace hq1 := hq1.symm
  replace hq2 := hq2.symm
  subst hq1 hq2
  refine fm_cnt (z' := (0, 0)) rfl (fm_st (st' := [.int (nI 1), .ref 586]) rfl ?_)
  refine fm_if_ne (tgt := 14) hc d_Mo_net_7 rfl (fun _ => ?_) (fun g => absurd g (by decide))
  refine fm_iload_n hc d_Mo_net_14 rfl rfl ?_
  refine fm_iconst (v := nI 0) hc d_Mo_net_15 rfl ?_
  refine fm_aload_n hc d_Mo_net_16 rfl rfl ?_
  refine fm_getI (k := 37) hc K_Mo d_Mo_net_17 q_922 rfl (by decide) (by omega) (by decide) (by decide) (by decide) rfl ?_
  refine fm_iconst (v := nI 1) hc d_Mo_net_20 rfl ?_
  refine fm_isub hc d_Mo_net_21 ?_
  refine fm_callS (av := [.int v, .int (nI 0), .int ((M.1 586 37) - (nI 1))]) (rest := [.ref 586]) (y := y_Mo_within) (bytes := b_Mo_within) hc fm_T0_good (fm_EX_st b x) hex q_1049 q_13 q_1047 q_1048 pd_Mo_within (c_Mo_within_no hk) ⟨rfl, rfl, Nat.le_of_ble_eq_true rfl, Nat.le_of_ble_eq_true rfl⟩ ⟨Nat.le_of_ble_eq_true rfl, Nat.le_of_ble_eq_true rfl⟩ d_Mo_net_22 (Nat.le_of_ble_eq_true rfl) (fun r n2 M2 hp => ?_)
  obtain ⟨rfl, hq1, hq2⟩ := hp
  replace hq1 := hq1.symm
  replace hq2 := hq2.symm
  subst hq1 hq2
  refine fm_cnt (z' := (0, 0)) rfl (fm_st (st' := [.int (nI 0), .ref 586]) rfl ?_)
  refine fm_if_ne (tgt := 32) hc d_Mo_net_25 rfl (fun g => absurd rfl g) (fun _ => ?_)
  refine fm_iconst (v := nI 2) hc d_Mo_net_28 rfl ?_
  refine fm_goto (tgt := 51) hc d_Mo_net_29 rfl ?_
  refine fm_putI (k := 0) (v := nI 2) hc K_Mo d_Mo_net_51 q_885 rfl (by decide) (by omega) (by decide) (by decide) (by decide) rfl rfl rfl rfl ?_
  refine fm_aload_n hc d_Mo_net_54 rfl rfl ?_
  refine fm_getI (k := 0) hc K_Mo d_Mo_net_55 q_885 rfl (by decide) (by omega) (by decide) (by decide) (by decide) rfl ?_
  refine fm_top (congrArg Value.int (p1_same _ 586 0 (nI 2))) ?_
  refine fm_if_le (tgt := 63) hc d_Mo_net_58 rfl (fun g => absurd g (by decide)) (fun _ => ?_)
  refine fm_iconst (v := nI 0) hc d_Mo_net_61 rfl ?_
  exact fm_iret hc hr d_Mo_net_62 (Nat.le_refl _) (Nat.le_refl _) ⟨rfl, rfl, rfl⟩
theorem c_agent_bad1 {l : Launch} {b : Nat} {x : Nat → Nat} {D : va_G} {dA : Nat → ClassId} {v w u : Int32} {n : Nat} {M : fm_M} (hn : 586 ≤ n) (hA : fm_AP M) (hv : ¬ fm_in 4 v) : Met l y_An_agent (Cond.code y_An_agent b_An_agent 4 (some .int) :: fm_T0) ({ frames := 1, cells := 0, slots := 0, locals := 20 }) (fm_Pc fm_lay fm_nf fm_fk fm_cl b x D dA (fm_tys dA) (fm_EX b x) false [.ref 8, .int v, .int w, .int u] n M) (fm_Qc fm_lay fm_nf fm_fk fm_cl b x D dA (fun r n' M' => r = some (.int ((-1))) ∧ n' = n ∧ M' = M)) 0 0 (fm_A b) := by
  refine fm_enter (by decide) (Nat.le_of_ble_eq_true rfl) ?_
  intro p e s m args below meth c hc hr hnm hex htg
  refine fm_iload_n hc d_An_agent_0 rfl rfl ?_
  refine fm_callS (av := [.int v]) (rest := []) (y := y_An_isHost) (bytes := b_An_isHost) hc fm_T0_good (fm_EX_st b x) hex q_397 q_1 q_395 q_396 pd_An_isHost (c_An_isHost_no hv) ⟨rfl, rfl, Nat.le_of_ble_eq_true rfl, Nat.le_of_ble_eq_true rfl⟩ ⟨Nat.le_of_ble_eq_true rfl, Nat.le_of_ble_eq_true rfl⟩ d_An_agent_1 (Nat.le_of_ble_eq_true rfl) (fun r n2 M2 hp => ?_)
  obtain ⟨rfl, hq1, hq2⟩ := hp
  replace hq1 := hq1.symm
  replace hq2 := hq2.symm
  subst hq1 hq2
  refine fm_cnt (z' := (0, 0)) rfl (fm_st (st' := [.int (nI 0)]) rfl ?_)
  refine fm_if_eq (tgt := 43) hc d_An_agent_4 rfl (fun _ => ?_) (fun g => absurd rfl g)
  refine fm_iconst (v := (-1)) hc d_An_agent_43 rfl ?_
  exact fm_iret hc hr d_An_agent_44 (Nat.le_refl _) (Nat.le_refl _) ⟨rfl, rfl, rfl⟩
theorem c_agent_bad2 {l : Launch} {b : Nat} {x : Nat → Nat} {D : va_G} {dA : Nat → ClassId} {v w u : Int32} {n : Nat} {M : fm_M} (hn : 586 ≤ n) (hA : fm_AP M) (hv : fm_in 4 v) (hw : ¬ fm_in 8 w) : Met l y_An_agent (Cond.code y_An_agent b_An_agent 4 (some .int) :: fm_T0) ({ frames := 1, cells := 0, slots := 0, locals := 20 }) (fm_Pc fm_lay fm_nf fm_fk fm_cl b x D dA (fm_tys dA) (fm_EX b x) false [.ref 8, .int v, .int w, .int u] n M) (fm_Qc fm_lay fm_nf fm_fk fm_cl b x D dA (fun r n' M' => r = some (.int ((-1))) ∧ n' = n ∧ M' = M)) 0 0 (fm_A b) := by
  refine fm_enter (by decide) (Nat.le_of_ble_eq_true rfl) ?_
  intro p e s m args below meth c hc hr hnm hex htg
  refine fm_iload_n hc d_An_agent_0 rfl rfl ?_
  refine fm_callS (av := [.int v]) (rest := []) (y := y_An_isHost) (bytes := b_An_isHost) hc fm_T0_good (fm_EX_st b x) hex q_397 q_1 q_395 q_396 pd_An_isHost (c_An_isHost_ok hv) ⟨rfl, rfl, Nat.le_of_ble_eq_true rfl, Nat.le_of_ble_eq_true rfl⟩ ⟨Nat.le_of_ble_eq_true rfl, Nat.le_of_ble_eq_true rfl⟩ d_An_agent_1 (Nat.le_of_ble_eq_true rfl) (fun r n2 M2 hp => ?_)
  obtain ⟨rfl, hq1, hq2⟩ := hp
  replace hq1 := hq1.symm
  replace hq2 := hq2.symm
  subst hq1 hq2
  refine fm_cnt (z' := (0, 0)) rfl (fm_st (st' := [.int (nI 1)]) rfl ?_)
  refine fm_if_eq (tgt := 43) hc d_An_agent_4 rfl (fun g => absurd g (by decide)) (fun _ => ?_)
  refine fm_iload_n hc d_An_agent_7 rfl rfl ?_
  refine fm_callS (av := [.int w]) (rest := []) (y := y_An_isAgent) (bytes := b_An_isAgent) hc fm_T0_good (fm_EX_st b x) hex q_416 q_1 q_414 q_415 pd_An_isAgent (c_An_isAgent_no hw) ⟨rfl, rfl, Nat.le_of_ble_eq_true rfl, Nat.le_of_ble_eq_true rfl⟩ ⟨Nat.le_of_ble_eq_true rfl, Nat.le_of_ble_eq_true rfl⟩ d_An_agent_8 (Nat.le_of_ble_eq_true rfl) (fun r n2 M2 hp => ?_)
  obtain ⟨rfl, hq1, hq2⟩ := hp
  replace hq1 := hq1.symm
  replace hq2 := hq2.symm
  subst hq1 hq2
  refine fm_cnt (z' := (0, 0)) rfl (fm_st (st' := [.int (nI 0)]) rfl ?_)
  refine fm_if_eq (tgt := 43) hc d_An_agent_11 rfl (fun _ => ?_) (fun g => absurd rfl g)
  refine fm_iconst (v := (-1)) hc d_An_agent_43 rfl ?_
  exact fm_iret hc hr d_An_agent_44 (Nat.le_refl _) (Nat.le_refl _) ⟨rfl, rfl, rfl⟩
theorem c_agent_down {l : Launch} {b : Nat} {x : Nat → Nat} {D : va_G} {dA : Nat → ClassId} {j : Nat} {w u : Int32} {n : Nat} {M : fm_M} (hn : 586 ≤ n) (hA : fm_AP M) (hj : j < 4) (hw : fm_in 8 w) (hu : M.1 (90 + 124 * j) 1 = 0) : Met l y_An_agent (Cond.code y_An_agent b_An_agent 4 (some .int) :: fm_T0) ({ frames := 1, cells := 0, slots := 0, locals := 20 }) (fm_Pc fm_lay fm_nf fm_fk fm_cl b x D dA (fm_tys dA) (fm_EX b x) false [.ref 8, .int (nI j), .int w, .int u] n M) (fm_Qc fm_lay fm_nf fm_fk fm_cl b x D dA (fun r n' M' => r = some (.int ((-1))) ∧ n' = n ∧ M' = M)) 0 0 (fm_A b) := by
  refine fm_enter (by decide) (Nat.le_of_ble_eq_true rfl) ?_
  intro p e s m args below meth c hc hr hnm hex htg
  refine fm_iload_n hc d_An_agent_0 rfl rfl ?_
  refine fm_callS (av := [.int (nI j)]) (rest := []) (y := y_An_isHost) (bytes := b_An_isHost) hc fm_T0_good (fm_EX_st b x) hex q_397 q_1 q_395 q_396 pd_An_isHost (c_An_isHost_ok (in4_of hj)) ⟨rfl, rfl, Nat.le_of_ble_eq_true rfl, Nat.le_of_ble_eq_true rfl⟩ ⟨Nat.le_of_ble_eq_true rfl, Nat.le_of_ble_eq_true rfl⟩ d_An_agent_1 (Nat.le_of_ble_eq_true rfl) (fun r n2 M2 hp => ?_)
  obtain ⟨rfl, hq1, hq2⟩ := hp
  replace hq1 := hq1.symm
  replace hq2 := hq2.symm
  subst hq1 hq2
  refine fm_cnt (z' := (0, 0)) rfl (fm_st (st' := [.int (nI 1)]) rfl ?_)
  refine fm_if_eq (tgt := 43) hc d_An_agent_4 rfl (fun g => absurd g (by decide)) (fun _ => ?_)
  refine fm_iload_n hc d_An_agent_7 rfl rfl ?_
  refine fm_callS (av := [.int w]) (rest := []) (y := y_An_isAgent) (bytes := b_An_isAgent) hc fm_T0_good (fm_EX_st b x) hex q_416 q_1 q_414 q_415 pd_An_isAgent (c_An_isAgent_ok hw) ⟨rfl, rfl, Nat.le_of_ble_eq_true rfl, Nat.le_of_ble_eq_true rfl⟩ ⟨Nat.le_of_ble_eq_true rfl, Nat.le_of_ble_eq_true rfl⟩ d_An_agent_8 (Nat.le_of_ble_eq_true rfl) (fun r n2 M2 hp => ?_)
  obtain ⟨rfl, hq1, hq2⟩ := hp
  replace hq1 := hq1.symm
  replace hq2 := hq2.symm
  subst hq1 hq2
  refine fm_cnt (z' := (0, 0)) rfl (fm_st (st' := [.int (nI 1)]) rfl ?_)
  refine fm_if_eq (tgt := 43) hc d_An_agent_11 rfl (fun g => absurd g (by decide)) (fun _ => ?_)
  refine fm_aload_n hc d_An_agent_14 rfl rfl ?_
  refine fm_getR (k := 2) (q := 15) hc K_An d_An_agent_15 q_357 rfl (by decide) (by omega) (by decide) (by decide) (by decide) rfl (ap_2 hA) ?_
  refine fm_iload_n hc d_An_agent_18 rfl rfl ?_
  refine fm_aald (q := 90 + 124 * j) (j := j) (len := 4) hc 5 d_An_agent_19 (by decide) (by omega) (by decide) (by decide) rfl (by omega) (by decide) (ap_site hA hj) ?_
  refine fm_getI (k := 1) hc K_Si d_An_agent_20 q_334 rfl (by omega) (by omega) (ly_Si hj) (by decide) (by decide) rfl ?_
  refine fm_if_eq (tgt := 43) hc d_An_agent_23 rfl (fun _ => ?_) (fun g => absurd hu g)
  refine fm_iconst (v := (-1)) hc d_An_agent_43 rfl ?_
  exact fm_iret hc hr d_An_agent_44 (Nat.le_refl _) (Nat.le_refl _) ⟨rfl, rfl, rfl⟩
theorem c_agent_none {l : Launch} {b : Nat} {x : Nat → Nat} {D : va_G} {dA : Nat → ClassId} {j i mm sl : Nat} {u : Int32} {n : Nat} {M : fm_M} (hn : 586 ≤ n) (hA : fm_AP M) (hj : j < 4) (hi : i < 8) (hu : ¬ M.1 (90 + 124 * j) 1 = 0) (hm : M.2.2 (90 + 124 * j) 3 = some mm) (hm8 : 8 ≤ mm) (hmn : mm < n) (hml : (fm_lay mm).1 = 6) (hs : M.2.2 mm 0 = some sl) (hs8 : 8 ≤ sl) (hsn : sl < n) (hsl : fm_lay sl = (100, 8)) (he : M.1 sl i = 0) : Met l y_An_agent (Cond.code y_An_agent b_An_agent 4 (some .int) :: fm_T0) ({ frames := 1, cells := 0, slots := 0, locals := 20 }) (fm_Pc fm_lay fm_nf fm_fk fm_cl b x D dA (fm_tys dA) (fm_EX b x) false [.ref 8, .int (nI j), .int (nI i), .int u] n M) (fm_Qc fm_lay fm_nf fm_fk fm_cl b x D dA (fun r n' M' => r = some (.int ((-1))) ∧ n' = n ∧ M' = M)) 0 0 (fm_A b) := by
  refine fm_enter (by decide) (Nat.le_of_ble_eq_true rfl) ?_
  intro p e s m args below meth c hc hr hnm hex htg
  refine fm_iload_n hc d_An_agent_0 rfl rfl ?_
  refine fm_callS (av := [.int (nI j)]) (rest := []) (y := y_An_isHost) (bytes := b_An_isHost) hc fm_T0_good (fm_EX_st b x) hex q_397 q_1 q_395 q_396 pd_An_isHost (c_An_isHost_ok (in4_of hj)) ⟨rfl, rfl, Nat.le_of_ble_eq_true rfl, Nat.le_of_ble_eq_true rfl⟩ ⟨Nat.le_of_ble_eq_true rfl, Nat.le_of_ble_eq_true rfl⟩ d_An_agent_1 (Nat.le_of_ble_eq_true rfl) (fun r n2 M2 hp => ?_)
  obtain ⟨rfl, hq1, hq2⟩ := hp
  replace hq1 := hq1.symm
  replace hq2 := hq2.symm
  subst hq1 hq2
  refine fm_cnt (z' := (0, 0)) rfl (fm_st (st' := [.int (nI 1)]) rfl ?_)
  refine fm_if_eq (tgt := 43) hc d_An_agent_4 rfl (fun g => absurd g (by decide)) (fun _ => ?_)
  refine fm_iload_n hc d_An_agent_7 rfl rfl ?_
  refine fm_callS (av := [.int (nI i)]) (rest := []) (y := y_An_isAgent) (bytes := b_An_isAgent) hc fm_T0_good (fm_EX_st b x) hex q_416 q_1 q_414 q_415 pd_An_isAgent (c_An_isAgent_ok (in8_of hi)) ⟨rfl, rfl, Nat.le_of_ble_eq_true rfl, Nat.le_of_ble_eq_true rfl⟩ ⟨Nat.le_of_ble_eq_true rfl, Nat.le_of_ble_eq_true rfl⟩ d_An_agent_8 (Nat.le_of_ble_eq_true rfl) (fun r n2 M2 hp => ?_)
  obtain ⟨rfl, hq1, hq2⟩ := hp
  replace hq1 := hq1.symm
  replace hq2 := hq2.symm
  subst hq1 hq2
  refine fm_cnt (z' := (0, 0)) rfl (fm_st (st' := [.int (nI 1)]) rfl ?_)
  refine fm_if_eq (tgt := 43) hc d_An_agent_11 rfl (fun g => absurd g (by decide)) (fun _ => ?_)
  refine fm_aload_n hc d_An_agent_14 rfl rfl ?_
  refine fm_getR (k := 2) (q := 15) hc K_An d_An_agent_15 q_357 rfl (by decide) (by omega) (by decide) (by decide) (by decide) rfl (ap_2 hA) ?_
  refine fm_iload_n hc d_An_agent_18 rfl rfl ?_
  refine fm_aald (q := 90 + 124 * j) (j := j) (len := 4) hc 5 d_An_agent_19 (by decide) (by omega) (by decide) (by decide) rfl (by omega) (by decide) (ap_site hA hj) ?_
  refine fm_getI (k := 1) hc K_Si d_An_agent_20 q_334 rfl (by omega) (by omega) (ly_Si hj) (by decide) (by decide) rfl ?_
  refine fm_if_eq (tgt := 43) hc d_An_agent_23 rfl (fun g => absurd g hu) (fun _ => ?_)
  refine fm_aload_n hc d_An_agent_26 rfl rfl ?_
  refine fm_getR (k := 2) (q := 15) hc K_An d_An_agent_27 q_357 rfl (by decide) (by omega) (by decide) (by decide) (by decide) rfl (ap_2 hA) ?_
  refine fm_iload_n hc d_An_agent_30 rfl rfl ?_
  refine fm_aald (q := 90 + 124 * j) (j := j) (len := 4) hc 5 d_An_agent_31 (by decide) (by omega) (by decide) (by decide) rfl (by omega) (by decide) (ap_site hA hj) ?_
  refine fm_getR (k := 3) (q := mm) hc K_Si d_An_agent_32 q_338 rfl (by omega) (by omega) (ly_Si hj) (by decide) (by decide) rfl hm ?_
  refine fm_getR (k := 0) (q := sl) hc K_Me d_An_agent_35 q_307 rfl hm8 hmn hml (by decide) (by decide) rfl hs ?_
  refine fm_iload_n hc d_An_agent_38 rfl rfl ?_
  refine fm_iald (j := i) (len := 8) hc 0 d_An_agent_39 hs8 hsn hsl rfl (by omega) (by decide) ?_
  refine fm_if_ne (tgt := 45) hc d_An_agent_40 rfl (fun g => absurd he g) (fun _ => ?_)
  refine fm_iconst (v := (-1)) hc d_An_agent_43 rfl ?_
  exact fm_iret hc hr d_An_agent_44 (Nat.le_refl _) (Nat.le_refl _) ⟨rfl, rfl, rfl⟩
theorem r_agent_bad1 {l : Launch} {b : Nat} {x : Nat → Nat} {D : va_G} {dA : Nat → ClassId} {v w u : Int32} {n : Nat} {M : fm_M} (hn : 629 ≤ n) (hR : fm_RP M) (hv : ¬ fm_in 4 v) : Met l y_Mo_agent (Cond.code y_Mo_agent b_Mo_agent 5 (some .int) :: fm_T0) ({ frames := 1, cells := 0, slots := 0, locals := 22 }) (fm_Pc fm_lay fm_nf fm_fk fm_cl b x D dA (fm_tys dA) (fm_EX b x) false [.ref 586, .int v, .int w, .int u] n M) (fm_Qc fm_lay fm_nf fm_fk fm_cl b x D dA (fun r n' M' => r = some (.int ((-1))) ∧ n' = n ∧ M' = fm_put1 M 586 0 (nI 0))) 0 0 (fm_A b) := by
  refine fm_enter (by decide) (Nat.le_of_ble_eq_true rfl) ?_
  intro p e s m args below meth c hc hr hnm hex htg
  refine fm_aload_n hc d_Mo_agent_0 rfl rfl ?_
  refine fm_iconst (v := nI 0) hc d_Mo_agent_1 rfl ?_
  refine fm_putI (k := 0) (v := nI 0) hc K_Mo d_Mo_agent_2 q_885 rfl (by decide) (by omega) (by decide) (by decide) (by decide) rfl rfl rfl rfl ?_
  refine fm_iload_n hc d_Mo_agent_5 rfl rfl ?_
  refine fm_iconst (v := nI 0) hc d_Mo_agent_6 rfl ?_
  refine fm_iconst (v := nI 3) hc d_Mo_agent_7 rfl ?_
  refine fm_callS (av := [.int v, .int (nI 0), .int (nI 3)]) (rest := []) (y := y_Mo_within) (bytes := b_Mo_within) hc fm_T0_good (fm_EX_st b x) hex q_1049 q_13 q_1047 q_1048 pd_Mo_within (c_Mo_within_no (wi_no4 hv)) ⟨rfl, rfl, Nat.le_of_ble_eq_true rfl, Nat.le_of_ble_eq_true rfl⟩ ⟨Nat.le_of_ble_eq_true rfl, Nat.le_of_ble_eq_true rfl⟩ d_Mo_agent_8 (Nat.le_of_ble_eq_true rfl) (fun r n2 M2 hp => ?_)
  obtain ⟨rfl, hq1, hq2⟩ := hp
  replace hq1 := hq1.symm
  replace hq2 := hq2.symm
  subst hq1 hq2
  refine fm_cnt (z' := (0, 0)) rfl (fm_st (st' := [.int (nI 0)]) rfl ?_)
  refine fm_if_eq (tgt := 47) hc d_Mo_agent_11 rfl (fun _ => ?_) (fun g => absurd rfl g)
  refine fm_iconst (v := (-1)) hc d_Mo_agent_47 rfl ?_
  exact fm_iret hc hr d_Mo_agent_48 (Nat.le_refl _) (Nat.le_refl _) ⟨rfl, rfl, rfl⟩
theorem r_agent_bad2 {l : Launch} {b : Nat} {x : Nat → Nat} {D : va_G} {dA : Nat → ClassId} {v w u : Int32} {n : Nat} {M : fm_M} (hn : 629 ≤ n) (hR : fm_RP M) (hv : fm_in 4 v) (hw : ¬ fm_in 8 w) : Met l y_Mo_agent (Cond.code y_Mo_agent b_Mo_agent 5 (some .int) :: fm_T0) ({ frames := 1, cells := 0, slots := 0, locals := 22 }) (fm_Pc fm_lay fm_nf fm_fk fm_cl b x D dA (fm_tys dA) (fm_EX b x) false [.ref 586, .int v, .int w, .int u] n M) (fm_Qc fm_lay fm_nf fm_fk fm_cl b x D dA (fun r n' M' => r = some (.int ((-1))) ∧ n' = n ∧ M' = fm_put1 M 586 0 (nI 0))) 0 0 (fm_A b) := by
  refine fm_enter (by decide) (Nat.le_of_ble_eq_true rfl) ?_
  intro p e s m args below meth c hc hr hnm hex htg
  refine fm_aload_n hc d_Mo_agent_0 rfl rfl ?_
  refine fm_iconst (v := nI 0) hc d_Mo_agent_1 rfl ?_
  refine fm_putI (k := 0) (v := nI 0) hc K_Mo d_Mo_agent_2 q_885 rfl (by decide) (by omega) (by decide) (by decide) (by decide) rfl rfl rfl rfl ?_
  refine fm_iload_n hc d_Mo_agent_5 rfl rfl ?_
  refine fm_iconst (v := nI 0) hc d_Mo_agent_6 rfl ?_
  refine fm_iconst (v := nI 3) hc d_Mo_agent_7 rfl ?_
  refine fm_callS (av := [.int v, .int (nI 0), .int (nI 3)]) (rest := []) (y := y_Mo_within) (bytes := b_Mo_within) hc fm_T0_good (fm_EX_st b x) hex q_1049 q_13 q_1047 q_1048 pd_Mo_within (c_Mo_within_ok (wi_of4 hv)) ⟨rfl, rfl, Nat.le_of_ble_eq_true rfl, Nat.le_of_ble_eq_true rfl⟩ ⟨Nat.le_of_ble_eq_true rfl, Nat.le_of_ble_eq_true rfl⟩ d_Mo_agent_8 (Nat.le_of_ble_eq_true rfl) (fun r n2 M2 hp => ?_)
  obtain ⟨rfl, hq1, hq2⟩ := hp
  replace hq1 := hq1.symm
  replace hq2 := hq2.symm
  subst hq1 hq2
  refine fm_cnt (z' := (0, 0)) rfl (fm_st (st' := [.int (nI 1)]) rfl ?_)
  refine fm_if_eq (tgt := 47) hc d_Mo_agent_11 rfl (fun g => absurd g (by decide)) (fun _ => ?_)
  refine fm_iload_n hc d_Mo_agent_14 rfl rfl ?_
  refine fm_iconst (v := nI 0) hc d_Mo_agent_15 rfl ?_
  refine fm_bipush (v := nI 7) hc d_Mo_agent_16 rfl ?_
  refine fm_callS (av := [.int w, .int (nI 0), .int (nI 7)]) (rest := []) (y := y_Mo_within) (bytes := b_Mo_within) hc fm_T0_good (fm_EX_st b x) hex q_1049 q_13 q_1047 q_1048 pd_Mo_within (c_Mo_within_no (wi_no8 hw)) ⟨rfl, rfl, Nat.le_of_ble_eq_true rfl, Nat.le_of_ble_eq_true rfl⟩ ⟨Nat.le_of_ble_eq_true rfl, Nat.le_of_ble_eq_true rfl⟩ d_Mo_agent_18 (Nat.le_of_ble_eq_true rfl) (fun r n2 M2 hp => ?_)
  obtain ⟨rfl, hq1, hq2⟩ := hp
  replace hq1 := hq1.symm
  replace hq2 := hq2.symm
  subst hq1 hq2
  refine fm_cnt (z' := (0, 0)) rfl (fm_st (st' := [.int (nI 0)]) rfl ?_)
  refine fm_if_eq (tgt := 47) hc d_Mo_agent_21 rfl (fun _ => ?_) (fun g => absurd rfl g)
  refine fm_iconst (v := (-1)) hc d_Mo_agent_47 rfl ?_
  exact fm_iret hc hr d_Mo_agent_48 (Nat.le_refl _) (Nat.le_refl _) ⟨rfl, rfl, rfl⟩
theorem r_agent_down {l : Launch} {b : Nat} {x : Nat → Nat} {D : va_G} {dA : Nat → ClassId} {j : Nat} {w u : Int32} {n : Nat} {M : fm_M} (hn : 629 ≤ n) (hR : fm_RP M) (hj : j < 4) (hw : fm_in 8 w) (hu : M.1 595 j = 0) : Met l y_Mo_agent (Cond.code y_Mo_agent b_Mo_agent 5 (some .int) :: fm_T0) ({ frames := 1, cells := 0, slots := 0, locals := 22 }) (fm_Pc fm_lay fm_nf fm_fk fm_cl b x D dA (fm_tys dA) (fm_EX b x) false [.ref 586, .int (nI j), .int w, .int u] n M) (fm_Qc fm_lay fm_nf fm_fk fm_cl b x D dA (fun r n' M' => r = some (.int ((-1))) ∧ n' = n ∧ M' = fm_put1 M 586 0 (nI 0))) 0 0 (fm_A b) := by
  refine fm_enter (by decide) (Nat.le_of_ble_eq_true rfl) ?_
  intro p e s m args below meth c hc hr hnm hex htg
  refine fm_aload_n hc d_Mo_agent_0 rfl rfl ?_
  refine fm_iconst (v := nI 0) hc d_Mo_agent_1 rfl ?_
  refine fm_putI (k := 0) (v := nI 0) hc K_Mo d_Mo_agent_2 q_885 rfl (by decide) (by omega) (by decide) (by decide) (by decide) rfl rfl rfl rfl ?_
  refine fm_iload_n hc d_Mo_agent_5 rfl rfl ?_
  refine fm_iconst (v := nI 0) hc d_Mo_agent_6 rfl ?_
  refine fm_iconst (v := nI 3) hc d_Mo_agent_7 rfl ?_
  refine fm_callS (av := [.int (nI j), .int (nI 0), .int (nI 3)]) (rest := []) (y := y_Mo_within) (bytes := b_Mo_within) hc fm_T0_good (fm_EX_st b x) hex q_1049 q_13 q_1047 q_1048 pd_Mo_within (c_Mo_within_ok (wi_of4 (in4_of hj))) ⟨rfl, rfl, Nat.le_of_ble_eq_true rfl, Nat.le_of_ble_eq_true rfl⟩ ⟨Nat.le_of_ble_eq_true rfl, Nat.le_of_ble_eq_true rfl⟩ d_Mo_agent_8 (Nat.le_of_ble_eq_true rfl) (fun r n2 M2 hp => ?_)
  obtain ⟨rfl, hq1, hq2⟩ := hp
  replace hq1 := hq1.symm
  replace hq2 := hq2.symm
  subst hq1 hq2
  refine fm_cnt (z' := (0, 0)) rfl (fm_st (st' := [.int (nI 1)]) rfl ?_)
  refine fm_if_eq (tgt := 47) hc d_Mo_agent_11 rfl (fun g => absurd g (by decide)) (fun _ => ?_)
  refine fm_iload_n hc d_Mo_agent_14 rfl rfl ?_
  refine fm_iconst (v := nI 0) hc d_Mo_agent_15 rfl ?_
  refine fm_bipush (v := nI 7) hc d_Mo_agent_16 rfl ?_
  refine fm_callS (av := [.int w, .int (nI 0), .int (nI 7)]) (rest := []) (y := y_Mo_within) (bytes := b_Mo_within) hc fm_T0_good (fm_EX_st b x) hex q_1049 q_13 q_1047 q_1048 pd_Mo_within (c_Mo_within_ok (wi_of8 hw)) ⟨rfl, rfl, Nat.le_of_ble_eq_true rfl, Nat.le_of_ble_eq_true rfl⟩ ⟨Nat.le_of_ble_eq_true rfl, Nat.le_of_ble_eq_true rfl⟩ d_Mo_agent_18 (Nat.le_of_ble_eq_true rfl) (fun r n2 M2 hp => ?_)
  obtain ⟨rfl, hq1, hq2⟩ := hp
  replace hq1 := hq1.symm
  replace hq2 := hq2.symm
  subst hq1 hq2
  refine fm_cnt (z' := (0, 0)) rfl (fm_st (st' := [.int (nI 1)]) rfl ?_)
  refine fm_if_eq (tgt := 47) hc d_Mo_agent_21 rfl (fun g => absurd g (by decide)) (fun _ => ?_)
  refine fm_aload_n hc d_Mo_agent_24 rfl rfl ?_
  refine fm_getR (k := 10) (q := 595) hc K_Mo d_Mo_agent_25 q_895 rfl (by decide) (by omega) (by decide) (by decide) (by decide) rfl (rp_up hR) ?_
  refine fm_iload_n hc d_Mo_agent_28 rfl rfl ?_
  refine fm_zald (j := j) (len := 4) hc 1 d_Mo_agent_29 (by decide) (by omega) (by decide) rfl (by omega) (by decide) ?_
  refine fm_if_eq (tgt := 47) hc d_Mo_agent_30 rfl (fun _ => ?_) (fun g => absurd hu g)
  refine fm_iconst (v := (-1)) hc d_Mo_agent_47 rfl ?_
  exact fm_iret hc hr d_Mo_agent_48 (Nat.le_refl _) (Nat.le_refl _) ⟨rfl, rfl, rfl⟩
theorem r_agent_none {l : Launch} {b : Nat} {x : Nat → Nat} {D : va_G} {dA : Nat → ClassId} {j i : Nat} {u : Int32} {n : Nat} {M : fm_M} (hn : 629 ≤ n) (hR : fm_RP M) (hj : j < 4) (hi : i < 8) (hu : ¬ M.1 595 j = 0) (he : M.1 597 (24 * j + i) = 0) : Met l y_Mo_agent (Cond.code y_Mo_agent b_Mo_agent 5 (some .int) :: fm_T0) ({ frames := 1, cells := 0, slots := 0, locals := 22 }) (fm_Pc fm_lay fm_nf fm_fk fm_cl b x D dA (fm_tys dA) (fm_EX b x) false [.ref 586, .int (nI j), .int (nI i), .int u] n M) (fm_Qc fm_lay fm_nf fm_fk fm_cl b x D dA (fun r n' M' => r = some (.int ((-1))) ∧ n' = n ∧ M' = fm_put1 M 586 0 (nI 0))) 0 0 (fm_A b) := by
  refine fm_enter (by decide) (Nat.le_of_ble_eq_true rfl) ?_
  intro p e s m args below meth c hc hr hnm hex htg
  refine fm_aload_n hc d_Mo_agent_0 rfl rfl ?_
  refine fm_iconst (v := nI 0) hc d_Mo_agent_1 rfl ?_
  refine fm_putI (k := 0) (v := nI 0) hc K_Mo d_Mo_agent_2 q_885 rfl (by decide) (by omega) (by decide) (by decide) (by decide) rfl rfl rfl rfl ?_
  refine fm_iload_n hc d_Mo_agent_5 rfl rfl ?_
  refine fm_iconst (v := nI 0) hc d_Mo_agent_6 rfl ?_
  refine fm_iconst (v := nI 3) hc d_Mo_agent_7 rfl ?_
  refine fm_callS (av := [.int (nI j), .int (nI 0), .int (nI 3)]) (rest := []) (y := y_Mo_within) (bytes := b_Mo_within) hc fm_T0_good (fm_EX_st b x) hex q_1049 q_13 q_1047 q_1048 pd_Mo_within (c_Mo_within_ok (wi_of4 (in4_of hj))) ⟨rfl, rfl, Nat.le_of_ble_eq_true rfl, Nat.le_of_ble_eq_true rfl⟩ ⟨Nat.le_of_ble_eq_true rfl, Nat.le_of_ble_eq_true rfl⟩ d_Mo_agent_8 (Nat.le_of_ble_eq_true rfl) (fun r n2 M2 hp => ?_)
  obtain ⟨rfl, hq1, hq2⟩ := hp
  replace hq1 := hq1.symm
  replace hq2 := hq2.symm
  subst hq1 hq2
  refine fm_cnt (z' := (0, 0)) rfl (fm_st (st' := [.int (nI 1)]) rfl ?_)
  refine fm_if_eq (tgt := 47) hc d_Mo_agent_11 rfl (fun g => absurd g (by decide)) (fun _ => ?_)
  refine fm_iload_n hc d_Mo_agent_14 rfl rfl ?_
  refine fm_iconst (v := nI 0) hc d_Mo_agent_15 rfl ?_
  refine fm_bipush (v := nI 7) hc d_Mo_agent_16 rfl ?_
  refine fm_callS (av := [.int (nI i), .int (nI 0), .int (nI 7)]) (rest := []) (y := y_Mo_within) (bytes := b_Mo_within) hc fm_T0_good (fm_EX_st b x) hex q_1049 q_13 q_1047 q_1048 pd_Mo_within (c_Mo_within_ok (wi_of8 (in8_of hi))) ⟨rfl, rfl, Nat.le_of_ble_eq_true rfl, Nat.le_of_ble_eq_true rfl⟩ ⟨Nat.le_of_ble_eq_true rfl, Nat.le_of_ble_eq_true rfl⟩ d_Mo_agent_18 (Nat.le_of_ble_eq_true rfl) (fun r n2 M2 hp => ?_)
  obtain ⟨rfl, hq1, hq2⟩ := hp
  replace hq1 := hq1.symm
  replace hq2 := hq2.symm
  subst hq1 hq2
  refine fm_cnt (z' := (0, 0)) rfl (fm_st (st' := [.int (nI 1)]) rfl ?_)
  refine fm_if_eq (tgt := 47) hc d_Mo_agent_21 rfl (fun g => absurd g (by decide)) (fun _ => ?_)
  refine fm_aload_n hc d_Mo_agent_24 rfl rfl ?_
  refine fm_getR (k := 10) (q := 595) hc K_Mo d_Mo_agent_25 q_895 rfl (by decide) (by omega) (by decide) (by decide) (by decide) rfl (rp_up hR) ?_
  refine fm_iload_n hc d_Mo_agent_28 rfl rfl ?_
  refine fm_zald (j := j) (len := 4) hc 1 d_Mo_agent_29 (by decide) (by omega) (by decide) rfl (by omega) (by decide) ?_
  refine fm_if_eq (tgt := 47) hc d_Mo_agent_30 rfl (fun g => absurd g hu) (fun _ => ?_)
  refine fm_aload_n hc d_Mo_agent_33 rfl rfl ?_
  refine fm_getR (k := 12) (q := 597) hc K_Mo d_Mo_agent_34 q_897 rfl (by decide) (by omega) (by decide) (by decide) (by decide) rfl (rp_slot hR) ?_
  refine fm_bipush (v := nI 24) hc d_Mo_agent_37 rfl ?_
  refine fm_iload_n hc d_Mo_agent_39 rfl rfl ?_
  refine fm_imul hc d_Mo_agent_40 ?_
  refine fm_top (congrArg Value.int (pk_mul 24 j)) ?_
  refine fm_iload_n hc d_Mo_agent_41 rfl rfl ?_
  refine fm_iadd hc d_Mo_agent_42 ?_
  refine fm_top (congrArg Value.int (nI_add (24 * j) i)) ?_
  refine fm_iald (j := (24 * j) + i) (len := 96) hc 0 d_Mo_agent_43 (by decide) (by omega) (by decide) rfl (by omega) (by decide) ?_
  refine fm_if_ne (tgt := 49) hc d_Mo_agent_44 rfl (fun g => absurd he g) (fun _ => ?_)
  refine fm_iconst (v := (-1)) hc d_Mo_agent_47 rfl ?_
  exact fm_iret hc hr d_Mo_agent_48 (Nat.le_refl _) (Nat.le_refl _) ⟨rfl, rfl, rfl⟩
theorem c_host_bad {l : Launch} {b : Nat} {x : Nat → Nat} {D : va_G} {dA : Nat → ClassId} {v w : Int32} {n : Nat} {M : fm_M} (hn : 586 ≤ n) (hA : fm_AP M) (hv : ¬ fm_in 4 v) : Met l y_An_host (Cond.code y_An_host b_An_host 3 (some .int) :: fm_T0) ({ frames := 1, cells := 0, slots := 0, locals := 20 }) (fm_Pc fm_lay fm_nf fm_fk fm_cl b x D dA (fm_tys dA) (fm_EX b x) false [.ref 8, .int v, .int w] n M) (fm_Qc fm_lay fm_nf fm_fk fm_cl b x D dA (fun r n' M' => r = some (.int ((-1))) ∧ n' = n ∧ M' = M)) 0 0 (fm_A b) := by
  refine fm_enter (by decide) (Nat.le_of_ble_eq_true rfl) ?_
  intro p e s m args below meth c hc hr hnm hex htg
  refine fm_iload_n hc d_An_host_0 rfl rfl ?_
  refine fm_callS (av := [.int v]) (rest := []) (y := y_An_isHost) (bytes := b_An_isHost) hc fm_T0_good (fm_EX_st b x) hex q_397 q_1 q_395 q_396 pd_An_isHost (c_An_isHost_no hv) ⟨rfl, rfl, Nat.le_of_ble_eq_true rfl, Nat.le_of_ble_eq_true rfl⟩ ⟨Nat.le_of_ble_eq_true rfl, Nat.le_of_ble_eq_true rfl⟩ d_An_host_1 (Nat.le_of_ble_eq_true rfl) (fun r n2 M2 hp => ?_)
  obtain ⟨rfl, hq1, hq2⟩ := hp
  replace hq1 := hq1.symm
  replace hq2 := hq2.symm
  subst hq1 hq2
  refine fm_cnt (z' := (0, 0)) rfl (fm_st (st' := [.int (nI 0)]) rfl ?_)
  refine fm_if_eq (tgt := 20) hc d_An_host_4 rfl (fun _ => ?_) (fun g => absurd rfl g)
  refine fm_iconst (v := (-1)) hc d_An_host_20 rfl ?_
  exact fm_iret hc hr d_An_host_21 (Nat.le_refl _) (Nat.le_refl _) ⟨rfl, rfl, rfl⟩
theorem r_host_bad {l : Launch} {b : Nat} {x : Nat → Nat} {D : va_G} {dA : Nat → ClassId} {v w : Int32} {n : Nat} {M : fm_M} (hn : 629 ≤ n) (hR : fm_RP M) (hv : ¬ fm_in 4 v) : Met l y_Mo_host (Cond.code y_Mo_host b_Mo_host 3 (some .int) :: fm_T0) ({ frames := 1, cells := 0, slots := 0, locals := 22 }) (fm_Pc fm_lay fm_nf fm_fk fm_cl b x D dA (fm_tys dA) (fm_EX b x) false [.ref 586, .int v, .int w] n M) (fm_Qc fm_lay fm_nf fm_fk fm_cl b x D dA (fun r n' M' => r = some (.int ((-1))) ∧ n' = n ∧ M' = fm_put1 M 586 0 (nI 0))) 0 0 (fm_A b) := by
  refine fm_enter (by decide) (Nat.le_of_ble_eq_true rfl) ?_
  intro p e s m args below meth c hc hr hnm hex htg
  refine fm_aload_n hc d_Mo_host_0 rfl rfl ?_
  refine fm_iconst (v := nI 0) hc d_Mo_host_1 rfl ?_
  refine fm_putI (k := 0) (v := nI 0) hc K_Mo d_Mo_host_2 q_885 rfl (by decide) (by omega) (by decide) (by decide) (by decide) rfl rfl rfl rfl ?_
  refine fm_iload_n hc d_Mo_host_5 rfl rfl ?_
  refine fm_iconst (v := nI 0) hc d_Mo_host_6 rfl ?_
  refine fm_iconst (v := nI 3) hc d_Mo_host_7 rfl ?_
  refine fm_callS (av := [.int v, .int (nI 0), .int (nI 3)]) (rest := []) (y := y_Mo_within) (bytes := b_Mo_within) hc fm_T0_good (fm_EX_st b x) hex q_1049 q_13 q_1047 q_1048 pd_Mo_within (c_Mo_within_no (wi_no4 hv)) ⟨rfl, rfl, Nat.le_of_ble_eq_true rfl, Nat.le_of_ble_eq_true rfl⟩ ⟨Nat.le_of_ble_eq_true rfl, Nat.le_of_ble_eq_true rfl⟩ d_Mo_host_8 (Nat.le_of_ble_eq_true rfl) (fun r n2 M2 hp => ?_)
  obtain ⟨rfl, hq1, hq2⟩ := hp
  replace hq1 := hq1.symm
  replace hq2 := hq2.symm
  subst hq1 hq2
  refine fm_cnt (z' := (0, 0)) rfl (fm_st (st' := [.int (nI 0)]) rfl ?_)
  refine fm_if_eq (tgt := 24) hc d_Mo_host_11 rfl (fun _ => ?_) (fun g => absurd rfl g)
  refine fm_iconst (v := (-1)) hc d_Mo_host_24 rfl ?_
  exact fm_iret hc hr d_Mo_host_25 (Nat.le_refl _) (Nat.le_refl _) ⟨rfl, rfl, rfl⟩
theorem c_outputs_bad {l : Launch} {b : Nat} {x : Nat → Nat} {D : va_G} {dA : Nat → ClassId} {v : Int32} {n : Nat} {M : fm_M} (hn : 586 ≤ n) (hA : fm_AP M) (hv : ¬ fm_in 8 v) : Met l y_An_outputs (Cond.code y_An_outputs b_An_outputs 2 (some .int) :: fm_T0) ({ frames := 1, cells := 0, slots := 0, locals := 20 }) (fm_Pc fm_lay fm_nf fm_fk fm_cl b x D dA (fm_tys dA) (fm_EX b x) false [.ref 8, .int v] n M) (fm_Qc fm_lay fm_nf fm_fk fm_cl b x D dA (fun r n' M' => r = some (.int ((-1))) ∧ n' = n ∧ M' = M)) 0 0 (fm_A b) := by
  refine fm_enter (by decide) (Nat.le_of_ble_eq_true rfl) ?_
  intro p e s m args below meth c hc hr hnm hex htg
  refine fm_iload_n hc d_An_outputs_0 rfl rfl ?_
  refine fm_callS (av := [.int v]) (rest := []) (y := y_An_isAgent) (bytes := b_An_isAgent) hc fm_T0_good (fm_EX_st b x) hex q_416 q_1 q_414 q_415 pd_An_isAgent (c_An_isAgent_no hv) ⟨rfl, rfl, Nat.le_of_ble_eq_true rfl, Nat.le_of_ble_eq_true rfl⟩ ⟨Nat.le_of_ble_eq_true rfl, Nat.le_of_ble_eq_true rfl⟩ d_An_outputs_1 (Nat.le_of_ble_eq_true rfl) (fun r n2 M2 hp => ?_)
  obtain ⟨rfl, hq1, hq2⟩ := hp
  replace hq1 := hq1.symm
  replace hq2 := hq2.symm
  subst hq1 hq2
  refine fm_cnt (z' := (0, 0)) rfl (fm_st (st' := [.int (nI 0)]) rfl ?_)
  refine fm_if_eq (tgt := 18) hc d_An_outputs_4 rfl (fun _ => ?_) (fun g => absurd rfl g)
  refine fm_iconst (v := (-1)) hc d_An_outputs_18 rfl ?_
  exact fm_iret hc hr d_An_outputs_19 (Nat.le_refl _) (Nat.le_refl _) ⟨rfl, rfl, rfl⟩
theorem r_outputs_bad {l : Launch} {b : Nat} {x : Nat → Nat} {D : va_G} {dA : Nat → ClassId} {v : Int32} {n : Nat} {M : fm_M} (hn : 629 ≤ n) (hR : fm_RP M) (hv : ¬ fm_in 8 v) : Met l y_Mo_outputs (Cond.code y_Mo_outputs b_Mo_outputs 2 (some .int) :: fm_T0) ({ frames := 1, cells := 0, slots := 0, locals := 22 }) (fm_Pc fm_lay fm_nf fm_fk fm_cl b x D dA (fm_tys dA) (fm_EX b x) false [.ref 586, .int v] n M) (fm_Qc fm_lay fm_nf fm_fk fm_cl b x D dA (fun r n' M' => r = some (.int ((-1))) ∧ n' = n ∧ M' = fm_put1 M 586 0 (nI 0))) 0 0 (fm_A b) := by
  refine fm_enter (by decide) (Nat.le_of_ble_eq_true rfl) ?_
  intro p e s m args below meth c hc hr hnm hex htg
  refine fm_aload_n hc d_Mo_outputs_0 rfl rfl ?_
  refine fm_iconst (v := nI 0) hc d_Mo_outputs_1 rfl ?_
  refine fm_putI (k := 0) (v := nI 0) hc K_Mo d_Mo_outputs_2 q_885 rfl (by decide) (by omega) (by decide) (by decide) (by decide) rfl rfl rfl rfl ?_
  refine fm_iload_n hc d_Mo_outputs_5 rfl rfl ?_
  refine fm_iconst (v := nI 0) hc d_Mo_outputs_6 rfl ?_
  refine fm_bipush (v := nI 7) hc d_Mo_outputs_7 rfl ?_
  refine fm_callS (av := [.int v, .int (nI 0), .int (nI 7)]) (rest := []) (y := y_Mo_within) (bytes := b_Mo_within) hc fm_T0_good (fm_EX_st b x) hex q_1049 q_13 q_1047 q_1048 pd_Mo_within (c_Mo_within_no (wi_no8 hv)) ⟨rfl, rfl, Nat.le_of_ble_eq_true rfl, Nat.le_of_ble_eq_true rfl⟩ ⟨Nat.le_of_ble_eq_true rfl, Nat.le_of_ble_eq_true rfl⟩ d_Mo_outputs_9 (Nat.le_of_ble_eq_true rfl) (fun r n2 M2 hp => ?_)
  obtain ⟨rfl, hq1, hq2⟩ := hp
  replace hq1 := hq1.symm
  replace hq2 := hq2.symm
  subst hq1 hq2
  refine fm_cnt (z' := (0, 0)) rfl (fm_st (st' := [.int (nI 0)]) rfl ?_)
  refine fm_if_eq (tgt := 24) hc d_Mo_outputs_12 rfl (fun _ => ?_) (fun g => absurd rfl g)
  refine fm_iconst (v := (-1)) hc d_Mo_outputs_24 rfl ?_
  exact fm_iret hc hr d_Mo_outputs_25 (Nat.le_refl _) (Nat.le_refl _) ⟨rfl, rfl, rfl⟩
theorem r_outputs_ok {l : Launch} {b : Nat} {x : Nat → Nat} {D : va_G} {dA : Nat → ClassId} {i : Nat} {n : Nat} {M : fm_M} (hn : 629 ≤ n) (hR : fm_RP M) (hi : i < 8) : Met l y_Mo_outputs (Cond.code y_Mo_outputs b_Mo_outputs 2 (some .int) :: fm_T0) ({ frames := 1, cells := 0, slots := 0, locals := 22 }) (fm_Pc fm_lay fm_nf fm_fk fm_cl b x D dA (fm_tys dA) (fm_EX b x) false [.ref 586, .int (nI i)] n M) (fm_Qc fm_lay fm_nf fm_fk fm_cl b x D dA (fun r n' M' => r = some (.int (M.1 593 i)) ∧ n' = n ∧ M' = fm_put1 M 586 0 (nI 0))) 0 0 (fm_A b) := by
  refine fm_enter (by decide) (Nat.le_of_ble_eq_true rfl) ?_
  intro p e s m args below meth c hc hr hnm hex htg
  refine fm_aload_n hc d_Mo_outputs_0 rfl rfl ?_
  refine fm_iconst (v := nI 0) hc d_Mo_outputs_1 rfl ?_
  refine fm_putI (k := 0) (v := nI 0) hc K_Mo d_Mo_outputs_2 q_885 rfl (by decide) (by omega) (by decide) (by decide) (by decide) rfl rfl rfl rfl ?_
  refine fm_iload_n hc d_Mo_outputs_5 rfl rfl ?_
  refine fm_iconst (v := nI 0) hc d_Mo_outputs_6 rfl ?_
  refine fm_bipush (v := nI 7) hc d_Mo_outputs_7 rfl ?_
  refine fm_callS (av := [.int (nI i), .int (nI 0), .int (nI 7)]) (rest := []) (y := y_Mo_within) (bytes := b_Mo_within) hc fm_T0_good (fm_EX_st b x) hex q_1049 q_13 q_1047 q_1048 pd_Mo_within (c_Mo_within_ok (wi_of8 (in8_of hi))) ⟨rfl, rfl, Nat.le_of_ble_eq_true rfl, Nat.le_of_ble_eq_true rfl⟩ ⟨Nat.le_of_ble_eq_true rfl, Nat.le_of_ble_eq_true rfl⟩ d_Mo_outputs_9 (Nat.le_of_ble_eq_true rfl) (fun r n2 M2 hp => ?_)
  obtain ⟨rfl, hq1, hq2⟩ := hp
  replace hq1 := hq1.symm
  replace hq2 := hq2.symm
  subst hq1 hq2
  refine fm_cnt (z' := (0, 0)) rfl (fm_st (st' := [.int (nI 1)]) rfl ?_)
  refine fm_if_eq (tgt := 24) hc d_Mo_outputs_12 rfl (fun g => absurd g (by decide)) (fun _ => ?_)
  refine fm_aload_n hc d_Mo_outputs_15 rfl rfl ?_
  refine fm_getR (k := 8) (q := 593) hc K_Mo d_Mo_outputs_16 q_893 rfl (by decide) (by omega) (by decide) (by decide) (by decide) rfl (rp_count hR) ?_
  refine fm_iload_n hc d_Mo_outputs_19 rfl rfl ?_
  refine fm_iald (j := i) (len := 8) hc 0 d_Mo_outputs_20 (by decide) (by omega) (by decide) rfl (by omega) (by decide) ?_
  refine fm_goto (tgt := 25) hc d_Mo_outputs_21 rfl ?_
  exact fm_iret hc hr d_Mo_outputs_25 (Nat.le_refl _) (Nat.le_refl _) ⟨rfl, rfl, rfl⟩
theorem c_sealed_bad {l : Launch} {b : Nat} {x : Nat → Nat} {D : va_G} {dA : Nat → ClassId} {v : Int32} {n : Nat} {M : fm_M} (hn : 586 ≤ n) (hA : fm_AP M) (hv : ¬ fm_in 8 v) : Met l y_An_sealed (Cond.code y_An_sealed b_An_sealed 7 (some .int) :: fm_T0) ({ frames := 1, cells := 0, slots := 0, locals := 20 }) (fm_Pc fm_lay fm_nf fm_fk fm_cl b x D dA (fm_tys dA) (fm_EX b x) false [.ref 8, .int v] n M) (fm_Qc fm_lay fm_nf fm_fk fm_cl b x D dA (fun r n' M' => r = some (.int ((-1))) ∧ n' = n ∧ M' = M)) 0 0 (fm_A b) := by
  refine fm_enter (by decide) (Nat.le_of_ble_eq_true rfl) ?_
  intro p e s m args below meth c hc hr hnm hex htg
  refine fm_iload_n hc d_An_sealed_0 rfl rfl ?_
  refine fm_callS (av := [.int v]) (rest := []) (y := y_An_isAgent) (bytes := b_An_isAgent) hc fm_T0_good (fm_EX_st b x) hex q_416 q_1 q_414 q_415 pd_An_isAgent (c_An_isAgent_no hv) ⟨rfl, rfl, Nat.le_of_ble_eq_true rfl, Nat.le_of_ble_eq_true rfl⟩ ⟨Nat.le_of_ble_eq_true rfl, Nat.le_of_ble_eq_true rfl⟩ d_An_sealed_1 (Nat.le_of_ble_eq_true rfl) (fun r n2 M2 hp => ?_)
  obtain ⟨rfl, hq1, hq2⟩ := hp
  replace hq1 := hq1.symm
  replace hq2 := hq2.symm
  subst hq1 hq2
  refine fm_cnt (z' := (0, 0)) rfl (fm_st (st' := [.int (nI 0)]) rfl ?_)
  refine fm_if_ne (tgt := 9) hc d_An_sealed_4 rfl (fun g => absurd rfl g) (fun _ => ?_)
  refine fm_iconst (v := (-1)) hc d_An_sealed_7 rfl ?_
  exact fm_iret hc hr d_An_sealed_8 (Nat.le_refl _) (Nat.le_refl _) ⟨rfl, rfl, rfl⟩
theorem r_sealed_bad {l : Launch} {b : Nat} {x : Nat → Nat} {D : va_G} {dA : Nat → ClassId} {v : Int32} {n : Nat} {M : fm_M} (hn : 629 ≤ n) (hR : fm_RP M) (hv : ¬ fm_in 8 v) : Met l y_Mo_sealed (Cond.code y_Mo_sealed b_Mo_sealed 8 (some .int) :: fm_T0) ({ frames := 1, cells := 0, slots := 0, locals := 22 }) (fm_Pc fm_lay fm_nf fm_fk fm_cl b x D dA (fm_tys dA) (fm_EX b x) false [.ref 586, .int v] n M) (fm_Qc fm_lay fm_nf fm_fk fm_cl b x D dA (fun r n' M' => r = some (.int ((-1))) ∧ n' = n ∧ M' = fm_put1 M 586 0 (nI 0))) 0 0 (fm_A b) := by
  refine fm_enter (by decide) (Nat.le_of_ble_eq_true rfl) ?_
  intro p e s m args below meth c hc hr hnm hex htg
  refine fm_aload_n hc d_Mo_sealed_0 rfl rfl ?_
  refine fm_iconst (v := nI 0) hc d_Mo_sealed_1 rfl ?_
  refine fm_putI (k := 0) (v := nI 0) hc K_Mo d_Mo_sealed_2 q_885 rfl (by decide) (by omega) (by decide) (by decide) (by decide) rfl rfl rfl rfl ?_
  refine fm_iload_n hc d_Mo_sealed_5 rfl rfl ?_
  refine fm_iconst (v := nI 0) hc d_Mo_sealed_6 rfl ?_
  refine fm_bipush (v := nI 7) hc d_Mo_sealed_7 rfl ?_
  refine fm_callS (av := [.int v, .int (nI 0), .int (nI 7)]) (rest := []) (y := y_Mo_within) (bytes := b_Mo_within) hc fm_T0_good (fm_EX_st b x) hex q_1049 q_13 q_1047 q_1048 pd_Mo_within (c_Mo_within_no (wi_no8 hv)) ⟨rfl, rfl, Nat.le_of_ble_eq_true rfl, Nat.le_of_ble_eq_true rfl⟩ ⟨Nat.le_of_ble_eq_true rfl, Nat.le_of_ble_eq_true rfl⟩ d_Mo_sealed_9 (Nat.le_of_ble_eq_true rfl) (fun r n2 M2 hp => ?_)
  obtain ⟨rfl, hq1, hq2⟩ := hp
  replace hq1 := hq1.symm
  replace hq2 := hq2.symm
  subst hq1 hq2
  refine fm_cnt (z' := (0, 0)) rfl (fm_st (st' := [.int (nI 0)]) rfl ?_)
  refine fm_if_ne (tgt := 17) hc d_Mo_sealed_12 rfl (fun g => absurd rfl g) (fun _ => ?_)
  refine fm_iconst (v := (-1)) hc d_Mo_sealed_15 rfl ?_
  exact fm_iret hc hr d_Mo_sealed_16 (Nat.le_refl _) (Nat.le_refl _) ⟨rfl, rfl, rfl⟩
theorem c_expected_bad {l : Launch} {b : Nat} {x : Nat → Nat} {D : va_G} {dA : Nat → ClassId} {v : Int32} {n : Nat} {M : fm_M} (hn : 586 ≤ n) (hA : fm_AP M) (hv : ¬ fm_in 8 v) : Met l y_An_expected (Cond.code y_An_expected b_An_expected 2 (some .int) :: fm_T0) ({ frames := 1, cells := 0, slots := 0, locals := 20 }) (fm_Pc fm_lay fm_nf fm_fk fm_cl b x D dA (fm_tys dA) (fm_EX b x) false [.ref 8, .int v] n M) (fm_Qc fm_lay fm_nf fm_fk fm_cl b x D dA (fun r n' M' => r = some (.int ((-1))) ∧ n' = n ∧ M' = M)) 0 0 (fm_A b) := by
  refine fm_enter (by decide) (Nat.le_of_ble_eq_true rfl) ?_
  intro p e s m args below meth c hc hr hnm hex htg
  refine fm_iload_n hc d_An_expected_0 rfl rfl ?_
  refine fm_callS (av := [.int v]) (rest := []) (y := y_An_isAgent) (bytes := b_An_isAgent) hc fm_T0_good (fm_EX_st b x) hex q_416 q_1 q_414 q_415 pd_An_isAgent (c_An_isAgent_no hv) ⟨rfl, rfl, Nat.le_of_ble_eq_true rfl, Nat.le_of_ble_eq_true rfl⟩ ⟨Nat.le_of_ble_eq_true rfl, Nat.le_of_ble_eq_true rfl⟩ d_An_expected_1 (Nat.le_of_ble_eq_true rfl) (fun r n2 M2 hp => ?_)
  obtain ⟨rfl, hq1, hq2⟩ := hp
  replace hq1 := hq1.symm
  replace hq2 := hq2.symm
  subst hq1 hq2
  refine fm_cnt (z' := (0, 0)) rfl (fm_st (st' := [.int (nI 0)]) rfl ?_)
  refine fm_if_eq (tgt := 33) hc d_An_expected_4 rfl (fun _ => ?_) (fun g => absurd rfl g)
  refine fm_iconst (v := (-1)) hc d_An_expected_33 rfl ?_
  exact fm_iret hc hr d_An_expected_34 (Nat.le_refl _) (Nat.le_refl _) ⟨rfl, rfl, rfl⟩
