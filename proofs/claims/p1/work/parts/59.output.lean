/-! output of the reference; expected where the free run met nobody -/
theorem r_output_bad1 {l : Launch} {b : Nat} {x : Nat → Nat} {D : va_G} {dA : Nat → ClassId} {v w : Int32} {n : Nat} {M : fm_M} (hn : 629 ≤ n) (hR : fm_RP M) (hv : ¬ fm_in 8 v) : Met l y_Mo_output (Cond.code y_Mo_output b_Mo_output 3 (some .long) :: fm_T0) ({ frames := 1, cells := 0, slots := 0, locals := 22 }) (fm_Pc fm_lay fm_nf fm_fk fm_cl b x D dA (fm_tys dA) (fm_EX b x) false [.ref 586, .int v, .int w] n M) (fm_Qc fm_lay fm_nf fm_fk fm_cl b x D dA (fun r n' M' => r = some (.long (1099511627776)) ∧ n' = n ∧ M' = fm_put1 M 586 0 (nI 0))) 0 0 (fm_A b) := by
  refine fm_enter (by decide) (Nat.le_of_ble_eq_true rfl) ?_
  intro p e s m args below meth c hc hr hnm hex htg
  refine fm_aload_n hc d_Mo_output_0 rfl rfl ?_
  refine fm_iconst (v := nI 0) hc d_Mo_output_1 rfl ?_
  refine fm_putI (k := 0) (v := nI 0) hc K_Mo d_Mo_output_2 q_885 rfl (by decide) (by omega) (by decide) (by decide) (by decide) rfl rfl rfl rfl ?_
  refine fm_iload_n hc d_Mo_output_5 rfl rfl ?_
  refine fm_iconst (v := nI 0) hc d_Mo_output_6 rfl ?_
  refine fm_bipush (v := nI 7) hc d_Mo_output_7 rfl ?_
  refine fm_callS (av := [.int v, .int (nI 0), .int (nI 7)]) (rest := []) (y := y_Mo_within) (bytes := b_Mo_within) hc fm_T0_good (fm_EX_st b x) hex q_1049 q_13 q_1047 q_1048 pd_Mo_within (c_Mo_within_no (wi_no8 hv)) ⟨rfl, rfl, Nat.le_of_ble_eq_true rfl, Nat.le_of_ble_eq_true rfl⟩ ⟨Nat.le_of_ble_eq_true rfl, Nat.le_of_ble_eq_true rfl⟩ d_Mo_output_9 (Nat.le_of_ble_eq_true rfl) (fun r n2 M2 hp => ?_)
  obtain ⟨rfl, hq1, hq2⟩ := hp
  replace hq1 := hq1.symm
  replace hq2 := hq2.symm
  subst hq1 hq2
  refine fm_cnt (z' := (0, 0)) rfl (fm_st (st' := [.int (nI 0)]) rfl ?_)
  refine fm_if_eq (tgt := 46) hc d_Mo_output_12 rfl (fun _ => ?_) (fun g => absurd rfl g)
  refine fm_ldc2 (v := 1099511627776) hc d_Mo_output_46 q_1098 ?_
  exact fm_lret hc hr d_Mo_output_49 (Nat.le_refl _) (Nat.le_refl _) ⟨rfl, rfl, rfl⟩
theorem r_output_bad2 {l : Launch} {b : Nat} {x : Nat → Nat} {D : va_G} {dA : Nat → ClassId} {i : Nat} {w : Int32} {n : Nat} {M : fm_M} (hn : 629 ≤ n) (hR : fm_RP M) (hi : i < 8) (hw : ¬ fm_wi w (nI 0) (M.1 593 i - nI 1)) : Met l y_Mo_output (Cond.code y_Mo_output b_Mo_output 3 (some .long) :: fm_T0) ({ frames := 1, cells := 0, slots := 0, locals := 22 }) (fm_Pc fm_lay fm_nf fm_fk fm_cl b x D dA (fm_tys dA) (fm_EX b x) false [.ref 586, .int (nI i), .int w] n M) (fm_Qc fm_lay fm_nf fm_fk fm_cl b x D dA (fun r n' M' => r = some (.long (1099511627776)) ∧ n' = n ∧ M' = fm_put1 M 586 0 (nI 0))) 0 0 (fm_A b) := by
  refine fm_enter (by decide) (Nat.le_of_ble_eq_true rfl) ?_
  intro p e s m args below meth c hc hr hnm hex htg
  refine fm_aload_n hc d_Mo_output_0 rfl rfl ?_
  refine fm_iconst (v := nI 0) hc d_Mo_output_1 rfl ?_
  refine fm_putI (k := 0) (v := nI 0) hc K_Mo d_Mo_output_2 q_885 rfl (by decide) (by omega) (by decide) (by decide) (by decide) rfl rfl rfl rfl ?_
  refine fm_iload_n hc d_Mo_output_5 rfl rfl ?_
  refine fm_iconst (v := nI 0) hc d_Mo_output_6 rfl ?_
  refine fm_bipush (v := nI 7) hc d_Mo_output_7 rfl ?_
  refine fm_callS (av := [.int (nI i), .int (nI 0), .int (nI 7)]) (rest := []) (y := y_Mo_within) (bytes := b_Mo_within) hc fm_T0_good (fm_EX_st b x) hex q_1049 q_13 q_1047 q_1048 pd_Mo_within (c_Mo_within_ok (wi_of8 (in8_of hi))) ⟨rfl, rfl, Nat.le_of_ble_eq_true rfl, Nat.le_of_ble_eq_true rfl⟩ ⟨Nat.le_of_ble_eq_true rfl, Nat.le_of_ble_eq_true rfl⟩ d_Mo_output_9 (Nat.le_of_ble_eq_true rfl) (fun r n2 M2 hp => ?_)
  obtain ⟨rfl, hq1, hq2⟩ := hp
  replace hq1 := hq1.symm
  replace hq2 := hq2.symm
  subst hq1 hq2
  refine fm_cnt (z' := (0, 0)) rfl (fm_st (st' := [.int (nI 1)]) rfl ?_)
  refine fm_if_eq (tgt := 46) hc d_Mo_output_12 rfl (fun g => absurd g (by decide)) (fun _ => ?_)
  refine fm_iload_n hc d_Mo_output_15 rfl rfl ?_
  refine fm_iconst (v := nI 0) hc d_Mo_output_16 rfl ?_
  refine fm_aload_n hc d_Mo_output_17 rfl rfl ?_
  refine fm_getR (k := 8) (q := 593) hc K_Mo d_Mo_output_18 q_893 rfl (by decide) (by omega) (by decide) (by decide) (by decide) rfl (rp_count hR) ?_
  refine fm_iload_n hc d_Mo_output_21 rfl rfl ?_
  refine fm_iald (j := i) (len := 8) hc 0 d_Mo_output_22 (by decide) (by omega) (by decide) rfl (by omega) (by decide) ?_
  refine fm_iconst (v := nI 1) hc d_Mo_output_23 rfl ?_
  refine fm_isub hc d_Mo_output_24 ?_
  refine fm_callS (av := [.int w, .int (nI 0), .int (((fm_put1 M 586 0 (nI 0)).1 593 i) - (nI 1))]) (rest := []) (y := y_Mo_within) (bytes := b_Mo_within) hc fm_T0_good (fm_EX_st b x) hex q_1049 q_13 q_1047 q_1048 pd_Mo_within (c_Mo_within_no hw) ⟨rfl, rfl, Nat.le_of_ble_eq_true rfl, Nat.le_of_ble_eq_true rfl⟩ ⟨Nat.le_of_ble_eq_true rfl, Nat.le_of_ble_eq_true rfl⟩ d_Mo_output_25 (Nat.le_of_ble_eq_true rfl) (fun r n2 M2 hp => ?_)
  obtain ⟨rfl, hq1, hq2⟩ := hp
  replace hq1 := hq1.symm
  replace hq2 := hq2.symm
  subst hq1 hq2
  refine fm_cnt (z' := (0, 0)) rfl (fm_st (st' := [.int (nI 0)]) rfl ?_)
  refine fm_if_eq (tgt := 46) hc d_Mo_output_28 rfl (fun _ => ?_) (fun g => absurd rfl g)
  refine fm_ldc2 (v := 1099511627776) hc d_Mo_output_46 q_1098 ?_
  exact fm_lret hc hr d_Mo_output_49 (Nat.le_refl _) (Nat.le_refl _) ⟨rfl, rfl, rfl⟩
theorem r_output_ok {l : Launch} {b : Nat} {x : Nat → Nat} {D : va_G} {dA : Nat → ClassId} {i k : Nat} {n : Nat} {M : fm_M} (hn : 629 ≤ n) (hR : fm_RP M) (hi : i < 8) (hk : k < 16) (hw : fm_wi (nI k) (nI 0) (M.1 593 i - nI 1)) : Met l y_Mo_output (Cond.code y_Mo_output b_Mo_output 3 (some .long) :: fm_T0) ({ frames := 1, cells := 0, slots := 0, locals := 22 }) (fm_Pc fm_lay fm_nf fm_fk fm_cl b x D dA (fm_tys dA) (fm_EX b x) false [.ref 586, .int (nI i), .int (nI k)] n M) (fm_Qc fm_lay fm_nf fm_fk fm_cl b x D dA (fun r n' M' => r = some (.long ((M.1 594 (16 * i + k)).toInt64)) ∧ n' = n ∧ M' = fm_put1 M 586 0 (nI 0))) 0 0 (fm_A b) := by
  refine fm_enter (by decide) (Nat.le_of_ble_eq_true rfl) ?_
  intro p e s m args below meth c hc hr hnm hex htg
  refine fm_aload_n hc d_Mo_output_0 rfl rfl ?_
  refine fm_iconst (v := nI 0) hc d_Mo_output_1 rfl ?_
  refine fm_putI (k := 0) (v := nI 0) hc K_Mo d_Mo_output_2 q_885 rfl (by decide) (by omega) (by decide) (by decide) (by decide) rfl rfl rfl rfl ?_
  refine fm_iload_n hc d_Mo_output_5 rfl rfl ?_
  refine fm_iconst (v := nI 0) hc d_Mo_output_6 rfl ?_
  refine fm_bipush (v := nI 7) hc d_Mo_output_7 rfl ?_
  refine fm_callS (av := [.int (nI i), .int (nI 0), .int (nI 7)]) (rest := []) (y := y_Mo_within) (bytes := b_Mo_within) hc fm_T0_good (fm_EX_st b x) hex q_1049 q_13 q_1047 q_1048 pd_Mo_within (c_Mo_within_ok (wi_of8 (in8_of hi))) ⟨rfl, rfl, Nat.le_of_ble_eq_true rfl, Nat.le_of_ble_eq_true rfl⟩ ⟨Nat.le_of_ble_eq_true rfl, Nat.le_of_ble_eq_true rfl⟩ d_Mo_output_9 (Nat.le_of_ble_eq_true rfl) (fun r n2 M2 hp => ?_)
  obtain ⟨rfl, hq1, hq2⟩ := hp
  replace hq1 := hq1.symm
  replace hq2 := hq2.symm
  subst hq1 hq2
  refine fm_cnt (z' := (0, 0)) rfl (fm_st (st' := [.int (nI 1)]) rfl ?_)
  refine fm_if_eq (tgt := 46) hc d_Mo_output_12 rfl (fun g => absurd g (by decide)) (fun _ => ?_)
  refine fm_iload_n hc d_Mo_output_15 rfl rfl ?_
  refine fm_iconst (v := nI 0) hc d_Mo_output_16 rfl ?_
  refine fm_aload_n hc d_Mo_output_17 rfl rfl ?_
  refine fm_getR (k := 8) (q := 593) hc K_Mo d_Mo_output_18 q_893 rfl (by decide) (by omega) (by decide) (by decide) (by decide) rfl (rp_count hR) ?_
  refine fm_iload_n hc d_Mo_output_21 rfl rfl ?_
  refine fm_iald (j := i) (len := 8) hc 0 d_Mo_output_22 (by decide) (by omega) (by decide) rfl (by omega) (by decide) ?_
  refine fm_iconst (v := nI 1) hc d_Mo_output_23 rfl ?_
  refine fm_isub hc d_Mo_output_24 ?_
  refine fm_callS (av := [.int (nI k), .int (nI 0), .int (((fm_put1 M 586 0 (nI 0)).1 593 i) - (nI 1))]) (rest := []) (y := y_Mo_within) (bytes := b_Mo_within) hc fm_T0_good (fm_EX_st b x) hex q_1049 q_13 q_1047 q_1048 pd_Mo_within (c_Mo_within_ok hw) ⟨rfl, rfl, Nat.le_of_ble_eq_true rfl, Nat.le_of_ble_eq_true rfl⟩ ⟨Nat.le_of_ble_eq_true rfl, Nat.le_of_ble_eq_true rfl⟩ d_Mo_output_25 (Nat.le_of_ble_eq_true rfl) (fun r n2 M2 hp => ?_)
  obtain ⟨rfl, hq1, hq2⟩ := hp
  replace hq1 := hq1.symm
  replace hq2 := hq2.symm
  subst hq1 hq2
  refine fm_cnt (z' := (0, 0)) rfl (fm_st (st' := [.int (nI 1)]) rfl ?_)
  refine fm_if_eq (tgt := 46) hc d_Mo_output_28 rfl (fun g => absurd g (by decide)) (fun _ => ?_)
  refine fm_aload_n hc d_Mo_output_31 rfl rfl ?_
  refine fm_getR (k := 9) (q := 594) hc K_Mo d_Mo_output_32 q_894 rfl (by decide) (by omega) (by decide) (by decide) (by decide) rfl (rp_freed hR) ?_
  refine fm_bipush (v := nI 16) hc d_Mo_output_35 rfl ?_
  refine fm_iload_n hc d_Mo_output_37 rfl rfl ?_
  refine fm_imul hc d_Mo_output_38 ?_
  refine fm_top (congrArg Value.int (pk_mul 16 i)) ?_
  refine fm_iload_n hc d_Mo_output_39 rfl rfl ?_
  refine fm_iadd hc d_Mo_output_40 ?_
  refine fm_top (congrArg Value.int (nI_add (16 * i) k)) ?_
  refine fm_iald (j := (16 * i) + k) (len := 128) hc 0 d_Mo_output_41 (by decide) (by omega) (by decide) rfl (by omega) (by decide) ?_
  refine fm_i2l hc d_Mo_output_42 ?_
  refine fm_goto (tgt := 49) hc d_Mo_output_43 rfl ?_
  exact fm_lret hc hr d_Mo_output_49 (Nat.le_refl _) (Nat.le_refl _) ⟨rfl, rfl, rfl⟩
theorem ap_6 {M : fm_M} (h : fm_AP M) : M.2.2 8 6 = some 69 := h (8, 6, 69) (List.mem_of_getElem? (i := 6) rfl)
theorem c_expected_unmet {l : Launch} {b : Nat} {x : Nat → Nat} {D : va_G} {dA : Nat → ClassId} {i : Nat} {n : Nat} {M : fm_M} (hn : 586 ≤ n) (hA : fm_AP M) (hi : i < 8) (hmet : M.2.2 69 1 = some 73) (hu : M.1 73 i = 0) : Met l y_An_expected (Cond.code y_An_expected b_An_expected 2 (some .int) :: fm_T0) ({ frames := 1, cells := 0, slots := 0, locals := 20 }) (fm_Pc fm_lay fm_nf fm_fk fm_cl b x D dA (fm_tys dA) (fm_EX b x) false [.ref 8, .int (nI i)] n M) (fm_Qc fm_lay fm_nf fm_fk fm_cl b x D dA (fun r n' M' => r = some (.int ((-1))) ∧ n' = n ∧ M' = M)) 0 0 (fm_A b) := by
  refine fm_enter (by decide) (Nat.le_of_ble_eq_true rfl) ?_
  intro p e s m args below meth c hc hr hnm hex htg
  refine fm_iload_n hc d_An_expected_0 rfl rfl ?_
  refine fm_callS (av := [.int (nI i)]) (rest := []) (y := y_An_isAgent) (bytes := b_An_isAgent) hc fm_T0_good (fm_EX_st b x) hex q_416 q_1 q_414 q_415 pd_An_isAgent (c_An_isAgent_ok (in8_of hi)) ⟨rfl, rfl, Nat.le_of_ble_eq_true rfl, Nat.le_of_ble_eq_true rfl⟩ ⟨Nat.le_of_ble_eq_true rfl, Nat.le_of_ble_eq_true rfl⟩ d_An_expected_1 (Nat.le_of_ble_eq_true rfl) (fun r n2 M2 hp => ?_)
  obtain ⟨rfl, hq1, hq2⟩ := hp
  replace hq1 := hq1.symm
  replace hq2 := hq2.symm
  subst hq1 hq2
  refine fm_cnt (z' := (0, 0)) rfl (fm_st (st' := [.int (nI 1)]) rfl ?_)
  refine fm_if_eq (tgt := 33) hc d_An_expected_4 rfl (fun g => absurd g (by decide)) (fun _ => ?_)
  refine fm_aload_n hc d_An_expected_7 rfl rfl ?_
  refine fm_getR (k := 6) (q := 69) hc K_An d_An_expected_8 q_361 rfl (by decide) (by omega) (by decide) (by decide) (by decide) rfl (ap_6 hA) ?_
  refine fm_getR (k := 1) (q := 73) hc K_Fr d_An_expected_11 q_259 rfl (by decide) (by omega) (by decide) (by decide) (by decide) rfl hmet ?_
  refine fm_iload_n hc d_An_expected_14 rfl rfl ?_
  refine fm_zald (j := i) (len := 8) hc 1 d_An_expected_15 (by decide) (by omega) (by decide) rfl (by omega) (by decide) ?_
  refine fm_if_eq (tgt := 33) hc d_An_expected_16 rfl (fun _ => ?_) (fun g => absurd hu g)
  refine fm_iconst (v := (-1)) hc d_An_expected_33 rfl ?_
  exact fm_iret hc hr d_An_expected_34 (Nat.le_refl _) (Nat.le_refl _) ⟨rfl, rfl, rfl⟩
