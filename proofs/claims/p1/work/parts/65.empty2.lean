/-! step, tick, checkpoint, sealed, outputs, output where there are no agents -/
theorem ap_5 {M : fm_M} (h : fm_AP M) : M.2.2 8 5 = some 66 := h (8, 5, 66) (List.mem_of_getElem? (i := 5) rfl)
theorem c_round0 {l : Launch} {b : Nat} {x : Nat → Nat} {D : va_G} {dA : Nat → ClassId} {j mm : Nat} {n : Nat} {M : fm_M} (hn : 586 ≤ n) (hA : fm_AP M) (hj : j < 4) (hM : fm_isM mm) (hm : M.2.2 (90 + 124 * j) 3 = some mm) (hP : fm_MP M mm) (hz : ∀ i, i < 8 → M.1 (mm + 1) i = 0) : Met l y_An_round (Cond.code y_An_round b_An_round 8 (some .int) :: fm_T0) ({ frames := 1, cells := 0, slots := 0, locals := 30 }) (fm_Pc fm_lay fm_nf fm_fk fm_cl b x D dA (fm_tys dA) (fm_EX b x) false [.ref 8, .int (nI j)] n M) (fm_Qc fm_lay fm_nf fm_fk fm_cl b x D dA (fun r n' M' => r = some (.int (nI 0)) ∧ n' = n ∧ M' = M)) 0 0 (fm_A b) := by
  refine fm_enter (by decide) (Nat.le_of_ble_eq_true rfl) ?_
  intro p e s m args below meth c hc hr hnm hex htg
  have hlo := isM_lo hM
  refine fm_aload_n hc d_An_round_0 rfl rfl ?_
  refine fm_getR (k := 2) (q := 15) hc K_An d_An_round_1 q_357 rfl (by decide) (by omega) (by decide) (by decide) (by decide) rfl (ap_2 hA) ?_
  refine fm_iload_n hc d_An_round_4 rfl rfl ?_
  refine fm_aald (q := 90 + 124 * j) (j := j) (len := 4) hc 5 d_An_round_5 (by decide) (by omega) (by decide) (by decide) rfl (by omega) (by decide) (ap_site hA hj) ?_
  refine fm_getR (k := 3) (q := mm) hc K_Si d_An_round_6 q_338 rfl (by omega) (by omega) (ly_Si hj) (by decide) (by decide) rfl hm ?_
  refine fm_astore_n (lv' := [(2, .ref mm), (0, .ref 8), (1, .int (nI j))]) hc d_An_round_9 rfl (by decide) rfl ?_
  refine fm_aload_n hc d_An_round_10 rfl rfl ?_
  refine fm_callV (av := []) (rest := []) (ob := mm) (ci := 6) (r0 := ("AgentNet$Memory", F_Me, 6)) (y := y_Me_running) (bytes := b_Me_running) hc fm_T0_good (fm_EX_st b x) hex q_694 q_11 q_691 q_692 q_693 pd_Me_running (by omega) (by omega) (ly_M0 hM) (by decide) rfl rfl (c_running0 hn hM hP hz) ⟨rfl, rfl, Nat.le_of_ble_eq_true rfl, Nat.le_of_ble_eq_true rfl⟩ ⟨Nat.le_of_ble_eq_true rfl, Nat.le_of_ble_eq_true rfl⟩ d_An_round_11 (Nat.le_of_ble_eq_true rfl) (fun r n2 M2 hp => ?_)
  obtain ⟨rfl, hq1, hq2⟩ := hp
  replace hq1 := hq1.symm
  replace hq2 := hq2.symm
  subst hq1 hq2
  refine fm_cnt (z' := (0, 0)) rfl (fm_st (st' := [.int (nI 0)]) rfl ?_)
  refine fm_istore_n (lv' := [(3, .int (nI 0)), (2, .ref mm), (0, .ref 8), (1, .int (nI j))]) hc d_An_round_14 rfl (by decide) rfl ?_
  refine fm_iconst (v := nI 0) hc d_An_round_15 rfl ?_
  refine fm_istore (lv' := [(4, .int (nI 0)), (3, .int (nI 0)), (2, .ref mm), (0, .ref 8), (1, .int (nI j))]) hc d_An_round_16 (by decide) rfl ?_
  refine fm_iconst (v := nI 0) hc d_An_round_18 rfl ?_
  refine fm_istore (lv' := [(5, .int (nI 0)), (4, .int (nI 0)), (3, .int (nI 0)), (2, .ref mm), (0, .ref 8), (1, .int (nI j))]) hc d_An_round_19 (by decide) rfl ?_
  refine fm_loop0 (N := 8) (lv := fun k => [(5, .int (nI k)), (4, .int (nI 0)), (3, .int (nI 0)), (2, .ref mm), (0, .ref 8), (1, .int (nI j))]) (fun k hk ih => ?_) ?_
  · refine fm_iload hc d_An_round_21 rfl ?_
    refine fm_bipush (v := nI 8) hc d_An_round_23 rfl ?_
    refine fm_icmp_ge (tgt := 117) hc d_An_round_25 rfl (fun g => absurd g (hnle (a := 8) (c := k) hk (by omega))) (fun _ => ?_)
    refine fm_aload_n hc d_An_round_28 rfl rfl ?_
    refine fm_getR (k := 4) (q := mm + 5) hc K_Me d_An_round_29 q_315 rfl (by omega) (by omega) (ly_M0 hM) (by decide) (by decide) rfl hP.2.2.2.2.1 ?_
    refine fm_iload hc d_An_round_32 rfl ?_
    refine fm_aald (q := mm + (9 + 4 * k)) (j := k) (len := 8) hc 7 d_An_round_34 (by omega) (by omega) (ly_M hM (k := 5) (by omega)) (by decide) rfl (by omega) (by decide) (hP.2.2.2.2.2.2.2.2 k hk).1 ?_
    refine fm_astore (lv' := [(6, .ref (mm + (9 + 4 * k))), (5, .int (nI k)), (4, .int (nI 0)), (3, .int (nI 0)), (2, .ref mm), (0, .ref 8), (1, .int (nI j))]) hc d_An_round_35 (by decide) rfl ?_
    refine fm_iload_n hc d_An_round_37 rfl rfl ?_
    refine fm_iload hc d_An_round_38 rfl ?_
    refine fm_ishr hc d_An_round_40 ?_
    refine fm_iconst (v := nI 1) hc d_An_round_41 rfl ?_
    refine fm_iand hc d_An_round_42 ?_
    refine fm_if_eq (tgt := 111) hc d_An_round_43 rfl (fun _ => ?_) (fun g => absurd (sh0 _) g)
    refine fm_iinc (v := nI (k + 1)) (lv' := [(5, .int (nI (k + 1))), (6, .ref (mm + (9 + 4 * k))), (4, .int (nI 0)), (3, .int (nI 0)), (2, .ref mm), (0, .ref 8), (1, .int (nI j))]) hc d_An_round_111 rfl (nI_1 k) (by decide) rfl ?_
    refine fm_goto (tgt := 21) hc d_An_round_114 rfl ?_
    refine fm_dropl (lv' := [(5, .int (nI (k + 1))), (4, .int (nI 0)), (3, .int (nI 0)), (2, .ref mm), (0, .ref 8), (1, .int (nI j))]) (by simp) ?_
    exact ih
  · refine fm_iload hc d_An_round_21 rfl ?_
    refine fm_bipush (v := nI 8) hc d_An_round_23 rfl ?_
    refine fm_icmp_ge (tgt := 117) hc d_An_round_25 rfl (fun _ => ?_) (fun g => absurd (by decide) g)
    refine fm_iload hc d_An_round_117 rfl ?_
    exact fm_iret hc hr d_An_round_119 (Nat.le_refl _) (Nat.le_refl _) ⟨rfl, rfl, rfl⟩
theorem c_sendArr0 {l : Launch} {b : Nat} {x : Nat → Nat} {D : va_G} {dA : Nat → ClassId} {j mm : Nat} {n : Nat} {M : fm_M} (hn : 586 ≤ n) (hA : fm_AP M) (hj : j < 4) (hM : fm_isM mm) (hm : M.2.2 (90 + 124 * j) 3 = some mm) (hP : fm_MP M mm) (hz : ∀ i, i < 8 → M.1 (mm + 1) i = 0) : Met l y_Si_sendArrivals (Cond.code y_Si_sendArrivals b_Si_sendArrivals 4 none :: fm_T0) ({ frames := 0, cells := 0, slots := 0, locals := 0 }) (fm_Pc fm_lay fm_nf fm_fk fm_cl b x D dA (fm_tys dA) (fm_EX b x) false [.ref (90 + 124 * j), .ref 16] n M) (fm_Qc fm_lay fm_nf fm_fk fm_cl b x D dA (fun r n' M' => r = none ∧ n' = n ∧ M' = M)) 0 0 (fm_A b) := by
  refine fm_enter (by decide) (Nat.le_of_ble_eq_true rfl) ?_
  intro p e s m args below meth c hc hr hnm hex htg
  have hlo := isM_lo hM
  refine fm_iconst (v := nI 0) hc d_Si_sendArrivals_0 rfl ?_
  refine fm_istore_n (lv' := [(2, .int (nI 0)), (0, .ref (90 + 124 * j)), (1, .ref 16)]) hc d_Si_sendArrivals_1 rfl (by decide) rfl ?_
  refine fm_loop0 (N := 8) (lv := fun k => [(2, .int (nI k)), (0, .ref (90 + 124 * j)), (1, .ref 16)]) (fun k hk ih => ?_) ?_
  · refine fm_iload_n hc d_Si_sendArrivals_2 rfl rfl ?_
    refine fm_bipush (v := nI 8) hc d_Si_sendArrivals_3 rfl ?_
    refine fm_icmp_ge (tgt := 70) hc d_Si_sendArrivals_5 rfl (fun g => absurd g (hnle (a := 8) (c := k) hk (by omega))) (fun _ => ?_)
    refine fm_aload_n hc d_Si_sendArrivals_8 rfl rfl ?_
    refine fm_getR (k := 3) (q := mm) hc K_Si d_Si_sendArrivals_9 q_337 rfl (by omega) (by omega) (ly_Si hj) (by decide) (by decide) rfl hm ?_
    refine fm_getR (k := 4) (q := mm + 5) hc K_Me d_Si_sendArrivals_12 q_316 rfl (by omega) (by omega) (ly_M0 hM) (by decide) (by decide) rfl hP.2.2.2.2.1 ?_
    refine fm_iload_n hc d_Si_sendArrivals_15 rfl rfl ?_
    refine fm_aald (q := mm + (9 + 4 * k)) (j := k) (len := 8) hc 7 d_Si_sendArrivals_16 (by omega) (by omega) (ly_M hM (k := 5) (by omega)) (by decide) rfl (by omega) (by decide) (hP.2.2.2.2.2.2.2.2 k hk).1 ?_
    refine fm_astore_n (lv' := [(3, .ref (mm + (9 + 4 * k))), (2, .int (nI k)), (0, .ref (90 + 124 * j)), (1, .ref 16)]) hc d_Si_sendArrivals_17 rfl (by decide) rfl ?_
    refine fm_aload_n hc d_Si_sendArrivals_18 rfl rfl ?_
    refine fm_getR (k := 3) (q := mm) hc K_Si d_Si_sendArrivals_19 q_337 rfl (by omega) (by omega) (ly_Si hj) (by decide) (by decide) rfl hm ?_
    refine fm_getR (k := 0) (q := mm + 1) hc K_Me d_Si_sendArrivals_22 q_306 rfl (by omega) (by omega) (ly_M0 hM) (by decide) (by decide) rfl hP.1 ?_
    refine fm_iload_n hc d_Si_sendArrivals_25 rfl rfl ?_
    refine fm_iald (j := k) (len := 8) hc 0 d_Si_sendArrivals_26 (by omega) (by omega) (ly_M hM (k := 1) (by omega)) rfl (by omega) (by decide) ?_
    refine fm_iconst (v := nI 2) hc d_Si_sendArrivals_27 rfl ?_
    refine fm_icmp_ne (tgt := 64) hc d_Si_sendArrivals_28 rfl (fun _ => ?_) (fun g => absurd g (by rw [hz k hk]; decide))
    refine fm_iinc (v := nI (k + 1)) (lv' := [(2, .int (nI (k + 1))), (3, .ref (mm + (9 + 4 * k))), (0, .ref (90 + 124 * j)), (1, .ref 16)]) hc d_Si_sendArrivals_64 rfl (nI_1 k) (by decide) rfl ?_
    refine fm_goto (tgt := 2) hc d_Si_sendArrivals_67 rfl ?_
    refine fm_dropl (lv' := [(2, .int (nI (k + 1))), (0, .ref (90 + 124 * j)), (1, .ref 16)]) (by simp) ?_
    exact ih
  · refine fm_iload_n hc d_Si_sendArrivals_2 rfl rfl ?_
    refine fm_bipush (v := nI 8) hc d_Si_sendArrivals_3 rfl ?_
    refine fm_icmp_ge (tgt := 70) hc d_Si_sendArrivals_5 rfl (fun _ => ?_) (fun g => absurd (by decide) g)
    exact fm_vret hc hr d_Si_sendArrivals_70 (Nat.le_refl _) (Nat.le_refl _) ⟨rfl, rfl, rfl⟩
theorem x_step_ok0 {l : Launch} {b : Nat} {x : Nat → Nat} {D : va_G} {dA : Nat → ClassId} (htr : l.stackTraces = false) {j mm c0 : Nat} {n : Nat} {M : fm_M} (hn : 586 ≤ n) (hA : fm_AP M) (hj : j < 4) (hM : fm_isM mm) (hm : M.2.2 (90 + 124 * j) 3 = some mm) (hP : fm_MP M mm) (hz : ∀ i, i < 8 → M.1 (mm + 1) i = 0) (hu : ¬ M.1 (90 + 124 * j) 1 = 0) (hc1 : 1 ≤ c0) (hc40 : c0 ≤ 40) : MetFree l y_An_step (headSpec (Cond.code y_An_step b_An_step 5 (some .int) :: fm_T0) ({ frames := 10, cells := 1, slots := 6, locals := 400 })) (fm_Pc fm_lay fm_nf fm_fk fm_cl b x D dA (fm_tys dA) (fm_EX b x) false [.ref 8, .int (nI j), .int (nI c0)] n M) (fun _ _ _ _ _ => True) (fx_Q fm_lay fm_nf fm_fk fm_cl b x D dA (fun r n' M' => r = some (.int (nI 0)) ∧ n' = n ∧ M' = M) (fun _ _ _ => False) 1 6) := by
  refine fx_enter (by decide) (Nat.le_of_ble_eq_true rfl) ?_
  intro p e s m args below meth c hc hr hnm hex htg htab
  have hlo := isM_lo hM
  refine fm_iload_n hc d_An_step_0 rfl rfl ?_
  refine fm_callS (av := [.int (nI j)]) (rest := []) (y := y_An_isHost) (bytes := b_An_isHost) hc fm_T0_good (fm_EX_st b x) hex q_397 q_1 q_395 q_396 pd_An_isHost (c_An_isHost_ok (in4_of hj)) ⟨rfl, rfl, Nat.le_of_ble_eq_true rfl, Nat.le_of_ble_eq_true rfl⟩ ⟨Nat.le_of_ble_eq_true rfl, Nat.le_of_ble_eq_true rfl⟩ d_An_step_1 (Nat.le_of_ble_eq_true rfl) (fun r n2 M2 hp => ?_)
  obtain ⟨rfl, hq1, hq2⟩ := hp
  replace hq1 := hq1.symm
  replace hq2 := hq2.symm
  subst hq1 hq2
  refine fm_cnt (z' := (0, 0)) rfl (fm_st (st' := [.int (nI 1)]) rfl ?_)
  refine fm_if_eq (tgt := 18) hc d_An_step_4 rfl (fun g => absurd g (by decide)) (fun _ => ?_)
  refine fm_iload_n hc d_An_step_7 rfl rfl ?_
  refine fm_iconst (v := nI 1) hc d_An_step_8 rfl ?_
  refine fm_icmp_lt (tgt := 18) hc d_An_step_9 rfl (fun g => absurd g (hnlt (a := c0) (c := 1) (by omega) (by omega))) (fun _ => ?_)
  refine fm_iload_n hc d_An_step_12 rfl rfl ?_
  refine fm_bipush (v := nI 40) hc d_An_step_13 rfl ?_
  refine fm_icmp_le (tgt := 26) hc d_An_step_15 rfl (fun _ => ?_) (fun g => absurd (nI_le (by omega) (by omega)) g)
  refine fm_aload_n hc d_An_step_26 rfl rfl ?_
  refine fm_getR (k := 2) (q := 15) hc K_An d_An_step_27 q_357 rfl (by decide) (by omega) (by decide) (by decide) (by decide) rfl (ap_2 hA) ?_
  refine fm_iload_n hc d_An_step_30 rfl rfl ?_
  refine fm_aald (q := 90 + 124 * j) (j := j) (len := 4) hc 5 d_An_step_31 (by decide) (by omega) (by decide) (by decide) rfl (by omega) (by decide) (ap_site hA hj) ?_
  refine fm_getI (k := 1) hc K_Si d_An_step_32 q_334 rfl (by omega) (by omega) (ly_Si hj) (by decide) (by decide) rfl ?_
  refine fm_if_ne (tgt := 46) hc d_An_step_35 rfl (fun _ => ?_) (fun g => absurd g hu)
  refine fm_iconst (v := nI 0) hc d_An_step_46 rfl ?_
  refine fm_istore_n (lv' := [(3, .int (nI 0)), (0, .ref 8), (1, .int (nI j)), (2, .int (nI c0))]) hc d_An_step_47 rfl (by decide) rfl ?_
  refine fm_iconst (v := nI 0) hc d_An_step_48 rfl ?_
  refine fm_istore (lv' := [(4, .int (nI 0)), (3, .int (nI 0)), (0, .ref 8), (1, .int (nI j)), (2, .int (nI c0))]) hc d_An_step_49 (by decide) rfl ?_
  refine fm_loop0 (N := c0) (lv := fun k => [(4, .int (nI k)), (3, .int (nI 0)), (0, .ref 8), (1, .int (nI j)), (2, .int (nI c0))]) (fun k hk ih => ?_) ?_
  · refine fm_iload hc d_An_step_51 rfl ?_
    refine fm_iload_n hc d_An_step_53 rfl rfl ?_
    refine fm_icmp_ge (tgt := 71) hc d_An_step_54 rfl (fun g => absurd g (hnle (a := c0) (c := k) hk (by omega))) (fun _ => ?_)
    refine fm_iload_n hc d_An_step_57 rfl rfl ?_
    refine fm_aload_n hc d_An_step_58 rfl rfl ?_
    refine fm_iload_n hc d_An_step_59 rfl rfl ?_
    refine fm_callV (av := [.int (nI j)]) (rest := [.int (nI 0)]) (ob := 8) (ci := 0) (r0 := ("AgentNet", F_An, 8)) (y := y_An_round) (bytes := b_An_round) hc fm_T0_good (fm_EX_st b x) hex q_690 q_1 q_687 q_689 qs_An_round pd_An_round (by decide) (by omega) (by decide) (by decide) rfl rfl (c_round0 hn hA hj hM hm hP hz) ⟨rfl, rfl, Nat.le_of_ble_eq_true rfl, Nat.le_of_ble_eq_true rfl⟩ ⟨Nat.le_of_ble_eq_true rfl, Nat.le_of_ble_eq_true rfl⟩ d_An_step_60 (Nat.le_of_ble_eq_true rfl) (fun r n2 M2 hp => ?_)
    obtain ⟨rfl, hq1, hq2⟩ := hp
    replace hq1 := hq1.symm
    replace hq2 := hq2.symm
    subst hq1 hq2
    refine fm_cnt (z' := (0, 0)) rfl (fm_st (st' := [.int (nI 0), .int (nI 0)]) rfl ?_)
    refine fm_iadd hc d_An_step_63 ?_
    refine fm_top (congrArg Value.int (nI_add 0 0)) ?_
    refine fm_istore_n (lv' := [(3, .int (nI 0)), (4, .int (nI k)), (0, .ref 8), (1, .int (nI j)), (2, .int (nI c0))]) hc d_An_step_64 rfl (by decide) rfl ?_
    refine fm_iinc (v := nI (k + 1)) (lv' := [(4, .int (nI (k + 1))), (3, .int (nI 0)), (0, .ref 8), (1, .int (nI j)), (2, .int (nI c0))]) hc d_An_step_65 rfl (nI_1 k) (by decide) rfl ?_
    refine fm_goto (tgt := 51) hc d_An_step_68 rfl ?_
    exact ih
  · refine fm_iload hc d_An_step_51 rfl ?_
    refine fm_iload_n hc d_An_step_53 rfl rfl ?_
    refine fm_icmp_ge (tgt := 71) hc d_An_step_54 rfl (fun _ => ?_) (fun g => absurd (nI_le (Nat.le_refl _) (by omega)) g)
    refine fm_iload_n hc d_An_step_71 rfl rfl ?_
    exact fx_ret (fm_iret hc hr d_An_step_72 (Nat.le_of_ble_eq_true rfl) (Nat.le_of_ble_eq_true rfl) ⟨rfl, rfl, rfl⟩)
theorem x_tick_ok0 {l : Launch} {b : Nat} {x : Nat → Nat} {D : va_G} {dA : Nat → ClassId} (htr : l.stackTraces = false) {j mm : Nat} {n : Nat} {M : fm_M} (hn : 586 ≤ n) (hA : fm_AP M) (hj : j < 4) (hM : fm_isM mm) (hm : M.2.2 (90 + 124 * j) 3 = some mm) (hP : fm_MP M mm) (hz : ∀ i, i < 8 → M.1 (mm + 1) i = 0) (hu : ¬ M.1 (90 + 124 * j) 1 = 0) : MetFree l y_An_tick (headSpec (Cond.code y_An_tick b_An_tick 2 (some .int) :: fm_T0) ({ frames := 10, cells := 1, slots := 6, locals := 400 })) (fm_Pc fm_lay fm_nf fm_fk fm_cl b x D dA (fm_tys dA) (fm_EX b x) false [.ref 8, .int (nI j)] n M) (fun _ _ _ _ _ => True) (fx_Q fm_lay fm_nf fm_fk fm_cl b x D dA (fun r n' M' => r = some (.int (M.1 16 1)) ∧ n' = n ∧ M' = M) (fun _ _ _ => False) 1 6) := by
  refine fx_enter (by decide) (Nat.le_of_ble_eq_true rfl) ?_
  intro p e s m args below meth c hc hr hnm hex htg htab
  have hlo := isM_lo hM
  refine fm_iload_n hc d_An_tick_0 rfl rfl ?_
  refine fm_callS (av := [.int (nI j)]) (rest := []) (y := y_An_isHost) (bytes := b_An_isHost) hc fm_T0_good (fm_EX_st b x) hex q_397 q_1 q_395 q_396 pd_An_isHost (c_An_isHost_ok (in4_of hj)) ⟨rfl, rfl, Nat.le_of_ble_eq_true rfl, Nat.le_of_ble_eq_true rfl⟩ ⟨Nat.le_of_ble_eq_true rfl, Nat.le_of_ble_eq_true rfl⟩ d_An_tick_1 (Nat.le_of_ble_eq_true rfl) (fun r n2 M2 hp => ?_)
  obtain ⟨rfl, hq1, hq2⟩ := hp
  replace hq1 := hq1.symm
  replace hq2 := hq2.symm
  subst hq1 hq2
  refine fm_cnt (z' := (0, 0)) rfl (fm_st (st' := [.int (nI 1)]) rfl ?_)
  refine fm_if_ne (tgt := 15) hc d_An_tick_4 rfl (fun _ => ?_) (fun g => absurd g (by decide))
  refine fm_aload_n hc d_An_tick_15 rfl rfl ?_
  refine fm_getR (k := 2) (q := 15) hc K_An d_An_tick_16 q_357 rfl (by decide) (by omega) (by decide) (by decide) (by decide) rfl (ap_2 hA) ?_
  refine fm_iload_n hc d_An_tick_19 rfl rfl ?_
  refine fm_aald (q := 90 + 124 * j) (j := j) (len := 4) hc 5 d_An_tick_20 (by decide) (by omega) (by decide) (by decide) rfl (by omega) (by decide) (ap_site hA hj) ?_
  refine fm_getI (k := 1) hc K_Si d_An_tick_21 q_334 rfl (by omega) (by omega) (ly_Si hj) (by decide) (by decide) rfl ?_
  refine fm_if_ne (tgt := 35) hc d_An_tick_24 rfl (fun _ => ?_) (fun g => absurd g hu)
  refine fm_aload_n hc d_An_tick_35 rfl rfl ?_
  refine fm_getR (k := 2) (q := 15) hc K_An d_An_tick_36 q_357 rfl (by decide) (by omega) (by decide) (by decide) (by decide) rfl (ap_2 hA) ?_
  refine fm_iload_n hc d_An_tick_39 rfl rfl ?_
  refine fm_aald (q := 90 + 124 * j) (j := j) (len := 4) hc 5 d_An_tick_40 (by decide) (by omega) (by decide) (by decide) rfl (by omega) (by decide) (ap_site hA hj) ?_
  refine fm_getR (k := 3) (q := mm) hc K_Si d_An_tick_41 q_338 rfl (by omega) (by omega) (ly_Si hj) (by decide) (by decide) rfl hm ?_
  refine fm_callV (av := []) (rest := []) (ob := mm) (ci := 6) (r0 := ("AgentNet$Memory", F_Me, 6)) (y := y_Me_passTime) (bytes := b_Me_passTime) hc fm_T0_good (fm_EX_st b x) hex q_713 q_11 q_710 q_711 q_712 pd_Me_passTime (by omega) (by omega) (ly_M0 hM) (by decide) rfl rfl (c_passTime0 hn hM hP hz) ⟨rfl, rfl, Nat.le_of_ble_eq_true rfl, Nat.le_of_ble_eq_true rfl⟩ ⟨Nat.le_of_ble_eq_true rfl, Nat.le_of_ble_eq_true rfl⟩ d_An_tick_44 (Nat.le_of_ble_eq_true rfl) (fun r n2 M2 hp => ?_)
  obtain ⟨rfl, hq1, hq2⟩ := hp
  replace hq1 := hq1.symm
  replace hq2 := hq2.symm
  subst hq1 hq2
  refine fm_cnt (z' := (0, 0)) rfl (fm_st (st' := []) rfl ?_)
  refine fm_aload_n hc d_An_tick_47 rfl rfl ?_
  refine fm_getR (k := 2) (q := 15) hc K_An d_An_tick_48 q_357 rfl (by decide) (by omega) (by decide) (by decide) (by decide) rfl (ap_2 hA) ?_
  refine fm_iload_n hc d_An_tick_51 rfl rfl ?_
  refine fm_aald (q := 90 + 124 * j) (j := j) (len := 4) hc 5 d_An_tick_52 (by decide) (by omega) (by decide) (by decide) rfl (by omega) (by decide) (ap_site hA hj) ?_
  refine fm_aload_n hc d_An_tick_53 rfl rfl ?_
  refine fm_getR (k := 3) (q := 16) hc K_An d_An_tick_54 q_358 rfl (by decide) (by omega) (by decide) (by decide) (by decide) rfl (ap_3 hA) ?_
  refine fm_callV (av := [.ref 16]) (rest := []) (ob := 90 + 124 * j) (ci := 8) (r0 := ("AgentNet$Site", F_Si, 6)) (y := y_Si_sendArrivals) (bytes := b_Si_sendArrivals) hc fm_T0_good (fm_EX_st b x) hex q_717 q_10 q_714 q_715 q_716 pd_Si_sendArrivals (by omega) (by omega) (ly_Si hj) (by decide) rfl rfl (c_sendArr0 hn hA hj hM hm hP hz) ⟨rfl, rfl, Nat.le_of_ble_eq_true rfl, Nat.le_of_ble_eq_true rfl⟩ ⟨Nat.le_of_ble_eq_true rfl, Nat.le_of_ble_eq_true rfl⟩ d_An_tick_57 (Nat.le_of_ble_eq_true rfl) (fun r n2 M2 hp => ?_)
  obtain ⟨rfl, hq1, hq2⟩ := hp
  replace hq1 := hq1.symm
  replace hq2 := hq2.symm
  subst hq1 hq2
  refine fm_cnt (z' := (0, 0)) rfl (fm_st (st' := []) rfl ?_)
  refine fm_aload_n hc d_An_tick_60 rfl rfl ?_
  refine fm_getR (k := 3) (q := 16) hc K_An d_An_tick_61 q_358 rfl (by decide) (by omega) (by decide) (by decide) (by decide) rfl (ap_3 hA) ?_
  refine fm_getI (k := 1) hc K_Wi d_An_tick_64 q_85 rfl (by decide) (by omega) (by decide) (by decide) (by decide) rfl ?_
  exact fx_ret (fm_iret hc hr d_An_tick_67 (Nat.le_of_ble_eq_true rfl) (Nat.le_of_ble_eq_true rfl) ⟨rfl, rfl, rfl⟩)
theorem c_begin0 {l : Launch} {b : Nat} {x : Nat → Nat} {D : va_G} {dA : Nat → ClassId} {j mm mo : Nat} {n : Nat} {M : fm_M} (hn : 586 ≤ n) (hA : fm_AP M) (hj : j < 4) (hM : fm_isM mm) (hMo : fm_isM mo) (hm : M.2.2 (90 + 124 * j) 5 = some mm) (hmo : M.2.2 (90 + 124 * j) 3 = some mo) (hP : fm_MP M mm) (hPo : fm_MP M mo) (hz : ∀ i, i < 8 → M.1 (mm + 1) i = 0) (e1 : ∀ i, i < 8 → M.1 (mo + 1) i = M.1 (mm + 1) i) (e2 : ∀ i, i < 8 → M.1 (mo + 2) i = M.1 (mm + 2) i) (e3 : ∀ i, i < 8 → M.1 (mo + 3) i = M.1 (mm + 3) i) (e4 : ∀ i, i < 8 → M.1 (mo + 4) i = M.1 (mm + 4) i) (e7 : ∀ i, i < 8 → M.1 (mo + 7) i = M.1 (mm + 7) i) (e8 : ∀ i, i < 128 → M.1 (mo + 8) i = M.1 (mm + 8) i) : Met l y_Si_beginCopy (Cond.code y_Si_beginCopy b_Si_beginCopy 1 (some .int) :: fm_T0) ({ frames := 3, cells := 0, slots := 0, locals := 110 }) (fm_Pc fm_lay fm_nf fm_fk fm_cl b x D dA (fm_tys dA) (fm_EX b x) false [.ref (90 + 124 * j)] n M) (fm_Qc fm_lay fm_nf fm_fk fm_cl b x D dA (fun r n' M' => r = some (.int (nI 1)) ∧ n' = n ∧ M' = fm_put1 M (90 + 124 * j) 2 (nI 1))) 0 0 (fm_A b) := by
  refine fm_enter (by decide) (Nat.le_of_ble_eq_true rfl) ?_
  intro p e s m args below meth c hc hr hnm hex htg
  have hlo := isM_lo hM
  have hloo := isM_lo hMo
  refine fm_aload_n hc d_Si_beginCopy_0 rfl rfl ?_
  refine fm_getR (k := 5) (q := mm) hc K_Si d_Si_beginCopy_1 q_341 rfl (by omega) (by omega) (ly_Si hj) (by decide) (by decide) rfl hm ?_
  refine fm_aload_n hc d_Si_beginCopy_4 rfl rfl ?_
  refine fm_getR (k := 3) (q := mo) hc K_Si d_Si_beginCopy_5 q_337 rfl (by omega) (by omega) (ly_Si hj) (by decide) (by decide) rfl hmo ?_
  refine fm_callV (av := [.ref mo]) (rest := []) (ob := mm) (ci := 6) (r0 := ("AgentNet$Memory", F_Me, 6)) (y := y_Me_copyFrom) (bytes := b_Me_copyFrom) hc fm_T0_good (fm_EX_st b x) hex q_762 q_11 q_759 q_760 q_761 pd_Me_copyFrom (by omega) (by omega) (ly_M0 hM) (by decide) rfl rfl (c_Mecopy0 hn hM hMo hP hPo hz e1 e2 e3 e4 e7 e8) ⟨rfl, rfl, Nat.le_of_ble_eq_true rfl, Nat.le_of_ble_eq_true rfl⟩ ⟨Nat.le_of_ble_eq_true rfl, Nat.le_of_ble_eq_true rfl⟩ d_Si_beginCopy_8 (Nat.le_of_ble_eq_true rfl) (fun r n2 M2 hp => ?_)
  obtain ⟨rfl, hq1, hq2⟩ := hp
  replace hq1 := hq1.symm
  replace hq2 := hq2.symm
  subst hq1 hq2
  refine fm_cnt (z' := (0, 0)) rfl (fm_st (st' := []) rfl ?_)
  refine fm_aload_n hc d_Si_beginCopy_11 rfl rfl ?_
  refine fm_aload_n hc d_Si_beginCopy_12 rfl rfl ?_
  refine fm_getR (k := 5) (q := mm) hc K_Si d_Si_beginCopy_13 q_341 rfl (by omega) (by omega) (ly_Si hj) (by decide) (by decide) rfl hm ?_
  refine fm_callV (av := []) (rest := [.ref (90 + 124 * j)]) (ob := mm) (ci := 6) (r0 := ("AgentNet$Memory", F_Me, 6)) (y := y_Me_filled) (bytes := b_Me_filled) hc fm_T0_good (fm_EX_st b x) hex q_773 q_11 q_770 q_771 q_772 pd_Me_filled (by omega) (by omega) (ly_M0 hM) (by decide) rfl rfl (c_filled0 hn hM hP hz) ⟨rfl, rfl, Nat.le_of_ble_eq_true rfl, Nat.le_of_ble_eq_true rfl⟩ ⟨Nat.le_of_ble_eq_true rfl, Nat.le_of_ble_eq_true rfl⟩ d_Si_beginCopy_16 (Nat.le_of_ble_eq_true rfl) (fun r n2 M2 hp => ?_)
  obtain ⟨rfl, hq1, hq2⟩ := hp
  replace hq1 := hq1.symm
  replace hq2 := hq2.symm
  subst hq1 hq2
  refine fm_cnt (z' := (0, 0)) rfl (fm_st (st' := [.int (nI 0), .ref (90 + 124 * j)]) rfl ?_)
  refine fm_iconst (v := nI 1) hc d_Si_beginCopy_19 rfl ?_
  refine fm_iadd hc d_Si_beginCopy_20 ?_
  refine fm_top (congrArg Value.int (nI_add 0 1)) ?_
  refine fm_putI (k := 2) (v := nI 1) hc K_Si d_Si_beginCopy_21 q_335 rfl (by omega) (by omega) (ly_Si hj) (by decide) (by decide) rfl rfl rfl rfl ?_
  refine fm_aload_n hc d_Si_beginCopy_24 rfl rfl ?_
  refine fm_getI (k := 2) hc K_Si d_Si_beginCopy_25 q_335 rfl (by omega) (by omega) (ly_Si hj) (by decide) (by decide) rfl ?_
  refine fm_top (congrArg Value.int (p1_same _ _ _ _)) ?_
  exact fm_iret hc hr d_Si_beginCopy_28 (Nat.le_refl _) (Nat.le_refl _) ⟨rfl, rfl, rfl⟩
theorem x_checkpoint_ok0 {l : Launch} {b : Nat} {x : Nat → Nat} {D : va_G} {dA : Nat → ClassId} (htr : l.stackTraces = false) {j mm mo : Nat} {n : Nat} {M : fm_M} (hn : 586 ≤ n) (hA : fm_AP M) (hj : j < 4) (hM : fm_isM mm) (hMo : fm_isM mo) (hm : M.2.2 (90 + 124 * j) 5 = some mm) (hmo : M.2.2 (90 + 124 * j) 3 = some mo) (hP : fm_MP M mm) (hPo : fm_MP M mo) (hz : ∀ i, i < 8 → M.1 (mm + 1) i = 0) (e1 : ∀ i, i < 8 → M.1 (mo + 1) i = M.1 (mm + 1) i) (e2 : ∀ i, i < 8 → M.1 (mo + 2) i = M.1 (mm + 2) i) (e3 : ∀ i, i < 8 → M.1 (mo + 3) i = M.1 (mm + 3) i) (e4 : ∀ i, i < 8 → M.1 (mo + 4) i = M.1 (mm + 4) i) (e7 : ∀ i, i < 8 → M.1 (mo + 7) i = M.1 (mm + 7) i) (e8 : ∀ i, i < 128 → M.1 (mo + 8) i = M.1 (mm + 8) i) (hu : ¬ M.1 (90 + 124 * j) 1 = 0) (hl : M.1 (90 + 124 * j) 2 ≤ 0) : MetFree l y_An_checkpoint (headSpec (Cond.code y_An_checkpoint b_An_checkpoint 2 (some .int) :: fm_T0) ({ frames := 10, cells := 1, slots := 6, locals := 400 })) (fm_Pc fm_lay fm_nf fm_fk fm_cl b x D dA (fm_tys dA) (fm_EX b x) false [.ref 8, .int (nI j)] n M) (fun _ _ _ _ _ => True) (fx_Q fm_lay fm_nf fm_fk fm_cl b x D dA (fun r n' M' => r = some (.int (nI 1)) ∧ n' = n ∧ M' = fm_put1 M (90 + 124 * j) 2 (nI 1)) (fun _ _ _ => False) 1 6) := by
  refine fx_enter (by decide) (Nat.le_of_ble_eq_true rfl) ?_
  intro p e s m args below meth c hc hr hnm hex htg htab
  have hlo := isM_lo hM
  have hloo := isM_lo hMo
  refine fm_iload_n hc d_An_checkpoint_0 rfl rfl ?_
  refine fm_callS (av := [.int (nI j)]) (rest := []) (y := y_An_isHost) (bytes := b_An_isHost) hc fm_T0_good (fm_EX_st b x) hex q_397 q_1 q_395 q_396 pd_An_isHost (c_An_isHost_ok (in4_of hj)) ⟨rfl, rfl, Nat.le_of_ble_eq_true rfl, Nat.le_of_ble_eq_true rfl⟩ ⟨Nat.le_of_ble_eq_true rfl, Nat.le_of_ble_eq_true rfl⟩ d_An_checkpoint_1 (Nat.le_of_ble_eq_true rfl) (fun r n2 M2 hp => ?_)
  obtain ⟨rfl, hq1, hq2⟩ := hp
  replace hq1 := hq1.symm
  replace hq2 := hq2.symm
  subst hq1 hq2
  refine fm_cnt (z' := (0, 0)) rfl (fm_st (st' := [.int (nI 1)]) rfl ?_)
  refine fm_if_ne (tgt := 15) hc d_An_checkpoint_4 rfl (fun _ => ?_) (fun g => absurd g (by decide))
  refine fm_aload_n hc d_An_checkpoint_15 rfl rfl ?_
  refine fm_getR (k := 2) (q := 15) hc K_An d_An_checkpoint_16 q_357 rfl (by decide) (by omega) (by decide) (by decide) (by decide) rfl (ap_2 hA) ?_
  refine fm_iload_n hc d_An_checkpoint_19 rfl rfl ?_
  refine fm_aald (q := 90 + 124 * j) (j := j) (len := 4) hc 5 d_An_checkpoint_20 (by decide) (by omega) (by decide) (by decide) rfl (by omega) (by decide) (ap_site hA hj) ?_
  refine fm_getI (k := 1) hc K_Si d_An_checkpoint_21 q_334 rfl (by omega) (by omega) (ly_Si hj) (by decide) (by decide) rfl ?_
  refine fm_if_eq (tgt := 39) hc d_An_checkpoint_24 rfl (fun g => absurd g hu) (fun _ => ?_)
  refine fm_aload_n hc d_An_checkpoint_27 rfl rfl ?_
  refine fm_getR (k := 2) (q := 15) hc K_An d_An_checkpoint_28 q_357 rfl (by decide) (by omega) (by decide) (by decide) (by decide) rfl (ap_2 hA) ?_
  refine fm_iload_n hc d_An_checkpoint_31 rfl rfl ?_
  refine fm_aald (q := 90 + 124 * j) (j := j) (len := 4) hc 5 d_An_checkpoint_32 (by decide) (by omega) (by decide) (by decide) rfl (by omega) (by decide) (ap_site hA hj) ?_
  refine fm_getI (k := 2) hc K_Si d_An_checkpoint_33 q_336 rfl (by omega) (by omega) (ly_Si hj) (by decide) (by decide) rfl ?_
  refine fm_if_le (tgt := 47) hc d_An_checkpoint_36 rfl (fun _ => ?_) (fun g => absurd hl g)
  refine fm_aload_n hc d_An_checkpoint_47 rfl rfl ?_
  refine fm_getR (k := 2) (q := 15) hc K_An d_An_checkpoint_48 q_357 rfl (by decide) (by omega) (by decide) (by decide) (by decide) rfl (ap_2 hA) ?_
  refine fm_iload_n hc d_An_checkpoint_51 rfl rfl ?_
  refine fm_aald (q := 90 + 124 * j) (j := j) (len := 4) hc 5 d_An_checkpoint_52 (by decide) (by omega) (by decide) (by decide) rfl (by omega) (by decide) (ap_site hA hj) ?_
  refine fm_callV (av := []) (rest := []) (ob := 90 + 124 * j) (ci := 8) (r0 := ("AgentNet$Site", F_Si, 6)) (y := y_Si_beginCopy) (bytes := b_Si_beginCopy) hc fm_T0_good (fm_EX_st b x) hex q_758 q_10 q_755 q_756 q_757 pd_Si_beginCopy (by omega) (by omega) (ly_Si hj) (by decide) rfl rfl (c_begin0 hn hA hj hM hMo hm hmo hP hPo hz e1 e2 e3 e4 e7 e8) ⟨rfl, rfl, Nat.le_of_ble_eq_true rfl, Nat.le_of_ble_eq_true rfl⟩ ⟨Nat.le_of_ble_eq_true rfl, Nat.le_of_ble_eq_true rfl⟩ d_An_checkpoint_53 (Nat.le_of_ble_eq_true rfl) (fun r n2 M2 hp => ?_)
  obtain ⟨rfl, hq1, hq2⟩ := hp
  replace hq1 := hq1.symm
  replace hq2 := hq2.symm
  subst hq1 hq2
  refine fm_cnt (z' := (0, 0)) rfl (fm_st (st' := [.int (nI 1)]) rfl ?_)
  exact fx_ret (fm_iret hc hr d_An_checkpoint_56 (Nat.le_of_ble_eq_true rfl) (Nat.le_of_ble_eq_true rfl) ⟨rfl, rfl, rfl⟩)
theorem c_sealed0 {l : Launch} {b : Nat} {x : Nat → Nat} {D : va_G} {dA : Nat → ClassId} {i : Nat} {mf : Nat → Nat} {n : Nat} {M : fm_M} (hn : 586 ≤ n) (hA : fm_AP M) (hi : i < 8) (hM : ∀ k, k < 4 → fm_isM (mf k)) (hm : ∀ k, k < 4 → M.2.2 (90 + 124 * k) 4 = some (mf k)) (hP : ∀ k, k < 4 → fm_MP M (mf k)) (hz : ∀ k, k < 4 → ∀ i, i < 8 → M.1 (mf k + 1) i = 0) : Met l y_An_sealed (Cond.code y_An_sealed b_An_sealed 7 (some .int) :: fm_T0) ({ frames := 1, cells := 0, slots := 0, locals := 30 }) (fm_Pc fm_lay fm_nf fm_fk fm_cl b x D dA (fm_tys dA) (fm_EX b x) false [.ref 8, .int (nI i)] n M) (fm_Qc fm_lay fm_nf fm_fk fm_cl b x D dA (fun r n' M' => r = some (.int (-1)) ∧ n' = n ∧ M' = M)) 0 0 (fm_A b) := by
  refine fm_enter (by decide) (Nat.le_of_ble_eq_true rfl) ?_
  intro p e s m args below meth c hc hr hnm hex htg
  refine fm_iload_n hc d_An_sealed_0 rfl rfl ?_
  refine fm_callS (av := [.int (nI i)]) (rest := []) (y := y_An_isAgent) (bytes := b_An_isAgent) hc fm_T0_good (fm_EX_st b x) hex q_416 q_1 q_414 q_415 pd_An_isAgent (c_An_isAgent_ok (in8_of hi)) ⟨rfl, rfl, Nat.le_of_ble_eq_true rfl, Nat.le_of_ble_eq_true rfl⟩ ⟨Nat.le_of_ble_eq_true rfl, Nat.le_of_ble_eq_true rfl⟩ d_An_sealed_1 (Nat.le_of_ble_eq_true rfl) (fun r n2 M2 hp => ?_)
  obtain ⟨rfl, hq1, hq2⟩ := hp
  replace hq1 := hq1.symm
  replace hq2 := hq2.symm
  subst hq1 hq2
  refine fm_cnt (z' := (0, 0)) rfl (fm_st (st' := [.int (nI 1)]) rfl ?_)
  refine fm_if_ne (tgt := 9) hc d_An_sealed_4 rfl (fun _ => ?_) (fun g => absurd g (by decide))
  refine fm_iconst (v := (-1)) hc d_An_sealed_9 rfl ?_
  refine fm_istore_n (lv' := [(2, .int ((-1))), (0, .ref 8), (1, .int (nI i))]) hc d_An_sealed_10 rfl (by decide) rfl ?_
  refine fm_iconst (v := nI 0) hc d_An_sealed_11 rfl ?_
  refine fm_istore_n (lv' := [(3, .int (nI 0)), (2, .int ((-1))), (0, .ref 8), (1, .int (nI i))]) hc d_An_sealed_12 rfl (by decide) rfl ?_
  refine fm_loop0 (N := 4) (lv := fun k => [(3, .int (nI k)), (2, .int ((-1))), (0, .ref 8), (1, .int (nI i))]) (fun k hk ih => ?_) ?_
  · refine fm_iload_n hc d_An_sealed_13 rfl rfl ?_
    refine fm_iconst (v := nI 4) hc d_An_sealed_14 rfl ?_
    refine fm_icmp_ge (tgt := 42) hc d_An_sealed_15 rfl (fun g => absurd g (hnle (a := 4) (c := k) hk (by omega))) (fun _ => ?_)
    refine fm_iload_n hc d_An_sealed_18 rfl rfl ?_
    refine fm_aload_n hc d_An_sealed_19 rfl rfl ?_
    refine fm_getR (k := 2) (q := 15) hc K_An d_An_sealed_20 q_357 rfl (by decide) (by omega) (by decide) (by decide) (by decide) rfl (ap_2 hA) ?_
    refine fm_iload_n hc d_An_sealed_23 rfl rfl ?_
    refine fm_aald (q := 90 + 124 * k) (j := k) (len := 4) hc 5 d_An_sealed_24 (by decide) (by omega) (by decide) (by decide) rfl (by omega) (by decide) (ap_site hA hk) ?_
    refine fm_getR (k := 4) (q := mf k) hc K_Si d_An_sealed_25 q_340 rfl (by omega) (by omega) (ly_Si hk) (by decide) (by decide) rfl (hm k hk) ?_
    refine fm_iload_n hc d_An_sealed_28 rfl rfl ?_
    refine fm_callV (av := [.int (nI i)]) (rest := [.int ((-1))]) (ob := mf k) (ci := 6) (r0 := ("AgentNet$Memory", F_Me, 6)) (y := y_Me_hopsOf) (bytes := b_Me_hopsOf) hc fm_T0_good (fm_EX_st b x) hex q_444 q_11 q_441 q_442 q_443 pd_Me_hopsOf (by have := isM_lo (hM k hk); omega) (by have := isM_lo (hM k hk); omega) (ly_M0 (hM k hk)) (by decide) rfl rfl (c_hopsOf0 hn (hM k hk) (hP k hk) (hz k hk) hi) ⟨rfl, rfl, Nat.le_of_ble_eq_true rfl, Nat.le_of_ble_eq_true rfl⟩ ⟨Nat.le_of_ble_eq_true rfl, Nat.le_of_ble_eq_true rfl⟩ d_An_sealed_29 (Nat.le_of_ble_eq_true rfl) (fun r n2 M2 hp => ?_)
    obtain ⟨rfl, hq1, hq2⟩ := hp
    replace hq1 := hq1.symm
    replace hq2 := hq2.symm
    subst hq1 hq2
    refine fm_cnt (z' := (0, 0)) rfl (fm_st (st' := [.int ((-1)), .int ((-1))]) rfl ?_)
    refine fm_mmax hc q_445 q_446 q_19 q_max d_An_sealed_32 (Nat.le_of_ble_eq_true rfl) (Nat.le_of_ble_eq_true rfl) (Nat.le_of_ble_eq_true rfl) (Nat.le_of_ble_eq_true rfl) ?_
    refine fm_top (congrArg Value.int (show (if (-1 : Int32) < (-1) then (-1) else (-1) : Int32) = -1 by decide)) ?_
    refine fm_istore_n (lv' := [(2, .int ((-1))), (3, .int (nI k)), (0, .ref 8), (1, .int (nI i))]) hc d_An_sealed_35 rfl (by decide) rfl ?_
    refine fm_iinc (v := nI (k + 1)) (lv' := [(3, .int (nI (k + 1))), (2, .int ((-1))), (0, .ref 8), (1, .int (nI i))]) hc d_An_sealed_36 rfl (nI_1 k) (by decide) rfl ?_
    refine fm_goto (tgt := 13) hc d_An_sealed_39 rfl ?_
    exact ih
  · refine fm_iload_n hc d_An_sealed_13 rfl rfl ?_
    refine fm_iconst (v := nI 4) hc d_An_sealed_14 rfl ?_
    refine fm_icmp_ge (tgt := 42) hc d_An_sealed_15 rfl (fun _ => ?_) (fun g => absurd (by decide) g)
    refine fm_iload_n hc d_An_sealed_42 rfl rfl ?_
    refine fm_iconst (v := (-1)) hc d_An_sealed_43 rfl ?_
    refine fm_icmp_ne (tgt := 49) hc d_An_sealed_44 rfl (fun g => absurd rfl g) (fun _ => ?_)
    refine fm_iconst (v := (-1)) hc d_An_sealed_47 rfl ?_
    exact fm_iret hc hr d_An_sealed_48 (Nat.le_refl _) (Nat.le_refl _) ⟨rfl, rfl, rfl⟩
theorem c_outputs_ok {l : Launch} {b : Nat} {x : Nat → Nat} {D : va_G} {dA : Nat → ClassId} {i : Nat} {n : Nat} {M : fm_M} (hn : 586 ≤ n) (hA : fm_AP M) (hi : i < 8) (hs : M.2.2 66 0 = some 67) : Met l y_An_outputs (Cond.code y_An_outputs b_An_outputs 2 (some .int) :: fm_T0) ({ frames := 2, cells := 0, slots := 0, locals := 50 }) (fm_Pc fm_lay fm_nf fm_fk fm_cl b x D dA (fm_tys dA) (fm_EX b x) false [.ref 8, .int (nI i)] n M) (fm_Qc fm_lay fm_nf fm_fk fm_cl b x D dA (fun r n' M' => r = some (.int (bitc (M.1 67 i))) ∧ n' = n ∧ M' = M)) 0 0 (fm_A b) := by
  refine fm_enter (by decide) (Nat.le_of_ble_eq_true rfl) ?_
  intro p e s m args below meth c hc hr hnm hex htg
  refine fm_iload_n hc d_An_outputs_0 rfl rfl ?_
  refine fm_callS (av := [.int (nI i)]) (rest := []) (y := y_An_isAgent) (bytes := b_An_isAgent) hc fm_T0_good (fm_EX_st b x) hex q_416 q_1 q_414 q_415 pd_An_isAgent (c_An_isAgent_ok (in8_of hi)) ⟨rfl, rfl, Nat.le_of_ble_eq_true rfl, Nat.le_of_ble_eq_true rfl⟩ ⟨Nat.le_of_ble_eq_true rfl, Nat.le_of_ble_eq_true rfl⟩ d_An_outputs_1 (Nat.le_of_ble_eq_true rfl) (fun r n2 M2 hp => ?_)
  obtain ⟨rfl, hq1, hq2⟩ := hp
  replace hq1 := hq1.symm
  replace hq2 := hq2.symm
  subst hq1 hq2
  refine fm_cnt (z' := (0, 0)) rfl (fm_st (st' := [.int (nI 1)]) rfl ?_)
  refine fm_if_eq (tgt := 18) hc d_An_outputs_4 rfl (fun g => absurd g (by decide)) (fun _ => ?_)
  refine fm_aload_n hc d_An_outputs_7 rfl rfl ?_
  refine fm_getR (k := 5) (q := 66) hc K_An d_An_outputs_8 q_360 rfl (by decide) (by omega) (by decide) (by decide) (by decide) rfl (ap_5 hA) ?_
  refine fm_iload_n hc d_An_outputs_11 rfl rfl ?_
  refine fm_callV (av := [.int (nI i)]) (rest := []) (ob := 66) (ci := 2) (r0 := ("AgentNet$Sayings", F_Sy, 2)) (y := y_Sy_count) (bytes := b_Sy_count) hc fm_T0_good (fm_EX_st b x) hex q_455 q_6 q_452 q_453 q_454 pd_Sy_count (by decide) (by omega) (by decide) (by decide) rfl rfl (c_count (by decide) (by omega) (by decide) (by decide) (by omega) (by decide) hs hi) ⟨rfl, rfl, Nat.le_of_ble_eq_true rfl, Nat.le_of_ble_eq_true rfl⟩ ⟨Nat.le_of_ble_eq_true rfl, Nat.le_of_ble_eq_true rfl⟩ d_An_outputs_12 (Nat.le_of_ble_eq_true rfl) (fun r n2 M2 hp => ?_)
  obtain ⟨rfl, hq1, hq2⟩ := hp
  replace hq1 := hq1.symm
  replace hq2 := hq2.symm
  subst hq1 hq2
  refine fm_cnt (z' := (0, 0)) rfl (fm_st (st' := [.int (bitc (M.1 67 i))]) rfl ?_)
  refine fm_goto (tgt := 19) hc d_An_outputs_15 rfl ?_
  exact fm_iret hc hr d_An_outputs_19 (Nat.le_refl _) (Nat.le_refl _) ⟨rfl, rfl, rfl⟩
theorem c_output {l : Launch} {b : Nat} {x : Nat → Nat} {D : va_G} {dA : Nat → ClassId} {v w : Int32} {t : Int64} {n : Nat} {M : fm_M} (hn : 586 ≤ n) (hA : fm_AP M) (hT : Met l y_Sy_valueOf (Cond.code y_Sy_valueOf b_Sy_valueOf 3 (some .long) :: fm_T0) ({ frames := 1, cells := 0, slots := 0, locals := 20 }) (fm_Pc fm_lay fm_nf fm_fk fm_cl b x D dA (fm_tys dA) (fm_EX b x) false [.ref 66, .int v, .int w] n M) (fm_Qc fm_lay fm_nf fm_fk fm_cl b x D dA (fun r n' M' => r = some (.long t) ∧ n' = n ∧ M' = M)) 0 0 (fm_A b)) : Met l y_An_output (Cond.code y_An_output b_An_output 3 (some .long) :: fm_T0) ({ frames := 2, cells := 0, slots := 0, locals := 45 }) (fm_Pc fm_lay fm_nf fm_fk fm_cl b x D dA (fm_tys dA) (fm_EX b x) false [.ref 8, .int v, .int w] n M) (fm_Qc fm_lay fm_nf fm_fk fm_cl b x D dA (fun r n' M' => r = some (.long t) ∧ n' = n ∧ M' = M)) 0 0 (fm_A b) := by
  refine fm_enter (by decide) (Nat.le_of_ble_eq_true rfl) ?_
  intro p e s m args below meth c hc hr hnm hex htg
  refine fm_aload_n hc d_An_output_0 rfl rfl ?_
  refine fm_getR (k := 5) (q := 66) hc K_An d_An_output_1 q_360 rfl (by decide) (by omega) (by decide) (by decide) (by decide) rfl (ap_5 hA) ?_
  refine fm_iload_n hc d_An_output_4 rfl rfl ?_
  refine fm_iload_n hc d_An_output_5 rfl rfl ?_
  refine fm_callV (av := [.int v, .int w]) (rest := []) (ob := 66) (ci := 2) (r0 := ("AgentNet$Sayings", F_Sy, 2)) (y := y_Sy_valueOf) (bytes := b_Sy_valueOf) hc fm_T0_good (fm_EX_st b x) hex q_469 q_6 q_466 q_467 q_468 pd_Sy_valueOf (by decide) (by omega) (by decide) (by decide) rfl rfl (hT) ⟨rfl, rfl, Nat.le_of_ble_eq_true rfl, Nat.le_of_ble_eq_true rfl⟩ ⟨Nat.le_of_ble_eq_true rfl, Nat.le_of_ble_eq_true rfl⟩ d_An_output_6 (Nat.le_of_ble_eq_true rfl) (fun r n2 M2 hp => ?_)
  obtain ⟨rfl, hq1, hq2⟩ := hp
  replace hq1 := hq1.symm
  replace hq2 := hq2.symm
  subst hq1 hq2
  refine fm_cnt (z' := (0, 0)) rfl (fm_st (st' := [.long t]) rfl ?_)
  exact fm_lret hc hr d_An_output_9 (Nat.le_refl _) (Nat.le_refl _) ⟨rfl, rfl, rfl⟩
theorem c_expectedOutput {l : Launch} {b : Nat} {x : Nat → Nat} {D : va_G} {dA : Nat → ClassId} {v w : Int32} {t : Int64} {n : Nat} {M : fm_M} (hn : 586 ≤ n) (hA : fm_AP M) (hf : M.2.2 69 0 = some 70) (hT : Met l y_Sy_valueOf (Cond.code y_Sy_valueOf b_Sy_valueOf 3 (some .long) :: fm_T0) ({ frames := 1, cells := 0, slots := 0, locals := 20 }) (fm_Pc fm_lay fm_nf fm_fk fm_cl b x D dA (fm_tys dA) (fm_EX b x) false [.ref 70, .int v, .int w] n M) (fm_Qc fm_lay fm_nf fm_fk fm_cl b x D dA (fun r n' M' => r = some (.long t) ∧ n' = n ∧ M' = M)) 0 0 (fm_A b)) : Met l y_An_expectedOutput (Cond.code y_An_expectedOutput b_An_expectedOutput 3 (some .long) :: fm_T0) ({ frames := 2, cells := 0, slots := 0, locals := 45 }) (fm_Pc fm_lay fm_nf fm_fk fm_cl b x D dA (fm_tys dA) (fm_EX b x) false [.ref 8, .int v, .int w] n M) (fm_Qc fm_lay fm_nf fm_fk fm_cl b x D dA (fun r n' M' => r = some (.long t) ∧ n' = n ∧ M' = M)) 0 0 (fm_A b) := by
  refine fm_enter (by decide) (Nat.le_of_ble_eq_true rfl) ?_
  intro p e s m args below meth c hc hr hnm hex htg
  refine fm_aload_n hc d_An_expectedOutput_0 rfl rfl ?_
  refine fm_getR (k := 6) (q := 69) hc K_An d_An_expectedOutput_1 q_361 rfl (by decide) (by omega) (by decide) (by decide) (by decide) rfl (ap_6 hA) ?_
  refine fm_getR (k := 0) (q := 70) hc K_Fr d_An_expectedOutput_4 q_257 rfl (by decide) (by omega) (by decide) (by decide) (by decide) rfl hf ?_
  refine fm_iload_n hc d_An_expectedOutput_7 rfl rfl ?_
  refine fm_iload_n hc d_An_expectedOutput_8 rfl rfl ?_
  refine fm_callV (av := [.int v, .int w]) (rest := []) (ob := 70) (ci := 2) (r0 := ("AgentNet$Sayings", F_Sy, 2)) (y := y_Sy_valueOf) (bytes := b_Sy_valueOf) hc fm_T0_good (fm_EX_st b x) hex q_469 q_6 q_466 q_467 q_468 pd_Sy_valueOf (by decide) (by omega) (by decide) (by decide) rfl rfl (hT) ⟨rfl, rfl, Nat.le_of_ble_eq_true rfl, Nat.le_of_ble_eq_true rfl⟩ ⟨Nat.le_of_ble_eq_true rfl, Nat.le_of_ble_eq_true rfl⟩ d_An_expectedOutput_9 (Nat.le_of_ble_eq_true rfl) (fun r n2 M2 hp => ?_)
  obtain ⟨rfl, hq1, hq2⟩ := hp
  replace hq1 := hq1.symm
  replace hq2 := hq2.symm
  subst hq1 hq2
  refine fm_cnt (z' := (0, 0)) rfl (fm_st (st' := [.long t]) rfl ?_)
  exact fm_lret hc hr d_An_expectedOutput_12 (Nat.le_refl _) (Nat.le_refl _) ⟨rfl, rfl, rfl⟩
