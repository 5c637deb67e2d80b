/-! methods of the class over empty memories; Math.max; Sayings.valueOf where nothing is said -/
theorem c_running0 {l : Launch} {b : Nat} {x : Nat → Nat} {D : va_G} {dA : Nat → ClassId} {mm : Nat} {n : Nat} {M : fm_M} (hn : 586 ≤ n) (hM : fm_isM mm) (hP : fm_MP M mm) (hz : ∀ i, i < 8 → M.1 (mm + 1) i = 0) : Met l y_Me_running (Cond.code y_Me_running b_Me_running 3 (some .int) :: fm_T0) ({ frames := 0, cells := 0, slots := 0, locals := 0 }) (fm_Pc fm_lay fm_nf fm_fk fm_cl b x D dA (fm_tys dA) (fm_EX b x) false [.ref mm] n M) (fm_Qc fm_lay fm_nf fm_fk fm_cl b x D dA (fun r n' M' => r = some (.int (nI 0)) ∧ n' = n ∧ M' = M)) 0 0 (fm_A b) := by
  refine fm_enter (by decide) (Nat.le_of_ble_eq_true rfl) ?_
  intro p e s m args below meth c hc hr hnm hex htg
  have hlo := isM_lo hM
  refine fm_iconst (v := nI 0) hc d_Me_running_0 rfl ?_
  refine fm_istore_n (lv' := [(1, .int (nI 0)), (0, .ref mm)]) hc d_Me_running_1 rfl (by decide) rfl ?_
  refine fm_iconst (v := nI 0) hc d_Me_running_2 rfl ?_
  refine fm_istore_n (lv' := [(2, .int (nI 0)), (1, .int (nI 0)), (0, .ref mm)]) hc d_Me_running_3 rfl (by decide) rfl ?_
  refine fm_loop0 (N := 8) (lv := fun k => [(2, .int (nI k)), (1, .int (nI 0)), (0, .ref mm)]) (fun k hk ih => ?_) ?_
  · refine fm_iload_n hc d_Me_running_4 rfl rfl ?_
    refine fm_bipush (v := nI 8) hc d_Me_running_5 rfl ?_
    refine fm_icmp_ge (tgt := 36) hc d_Me_running_7 rfl (fun g => absurd g (hnle (a := 8) (c := k) hk (by omega))) (fun _ => ?_)
    refine fm_iload_n hc d_Me_running_10 rfl rfl ?_
    refine fm_aload_n hc d_Me_running_11 rfl rfl ?_
    refine fm_getR (k := 0) (q := mm + 1) hc K_Me d_Me_running_12 q_305 rfl (by omega) (by omega) (ly_M0 hM) (by decide) (by decide) rfl hP.1 ?_
    refine fm_iload_n hc d_Me_running_15 rfl rfl ?_
    refine fm_iald (j := k) (len := 8) hc 0 d_Me_running_16 (by omega) (by omega) (ly_M hM (k := 1) (by omega)) rfl (by omega) (by decide) ?_
    refine fm_iconst (v := nI 1) hc d_Me_running_17 rfl ?_
    refine fm_icmp_ne (tgt := 27) hc d_Me_running_18 rfl (fun _ => ?_) (fun g => absurd g (by rw [hz k hk]; decide))
    refine fm_iconst (v := nI 0) hc d_Me_running_27 rfl ?_
    refine fm_ior hc d_Me_running_28 ?_
    refine fm_top (congrArg Value.int (show (nI 0 ||| nI 0 : Int32) = nI 0 by decide)) ?_
    refine fm_istore_n (lv' := [(1, .int (nI 0)), (2, .int (nI k)), (0, .ref mm)]) hc d_Me_running_29 rfl (by decide) rfl ?_
    refine fm_iinc (v := nI (k + 1)) (lv' := [(2, .int (nI (k + 1))), (1, .int (nI 0)), (0, .ref mm)]) hc d_Me_running_30 rfl (nI_1 k) (by decide) rfl ?_
    refine fm_goto (tgt := 4) hc d_Me_running_33 rfl ?_
    exact ih
  · refine fm_iload_n hc d_Me_running_4 rfl rfl ?_
    refine fm_bipush (v := nI 8) hc d_Me_running_5 rfl ?_
    refine fm_icmp_ge (tgt := 36) hc d_Me_running_7 rfl (fun _ => ?_) (fun g => absurd (by decide) g)
    refine fm_iload_n hc d_Me_running_36 rfl rfl ?_
    exact fm_iret hc hr d_Me_running_37 (Nat.le_refl _) (Nat.le_refl _) ⟨rfl, rfl, rfl⟩
theorem c_filled0 {l : Launch} {b : Nat} {x : Nat → Nat} {D : va_G} {dA : Nat → ClassId} {mm : Nat} {n : Nat} {M : fm_M} (hn : 586 ≤ n) (hM : fm_isM mm) (hP : fm_MP M mm) (hz : ∀ i, i < 8 → M.1 (mm + 1) i = 0) : Met l y_Me_filled (Cond.code y_Me_filled b_Me_filled 3 (some .int) :: fm_T0) ({ frames := 0, cells := 0, slots := 0, locals := 0 }) (fm_Pc fm_lay fm_nf fm_fk fm_cl b x D dA (fm_tys dA) (fm_EX b x) false [.ref mm] n M) (fm_Qc fm_lay fm_nf fm_fk fm_cl b x D dA (fun r n' M' => r = some (.int (nI 0)) ∧ n' = n ∧ M' = M)) 0 0 (fm_A b) := by
  refine fm_enter (by decide) (Nat.le_of_ble_eq_true rfl) ?_
  intro p e s m args below meth c hc hr hnm hex htg
  have hlo := isM_lo hM
  refine fm_iconst (v := nI 0) hc d_Me_filled_0 rfl ?_
  refine fm_istore_n (lv' := [(1, .int (nI 0)), (0, .ref mm)]) hc d_Me_filled_1 rfl (by decide) rfl ?_
  refine fm_iconst (v := nI 0) hc d_Me_filled_2 rfl ?_
  refine fm_istore_n (lv' := [(2, .int (nI 0)), (1, .int (nI 0)), (0, .ref mm)]) hc d_Me_filled_3 rfl (by decide) rfl ?_
  refine fm_loop0 (N := 8) (lv := fun k => [(2, .int (nI k)), (1, .int (nI 0)), (0, .ref mm)]) (fun k hk ih => ?_) ?_
  · refine fm_iload_n hc d_Me_filled_4 rfl rfl ?_
    refine fm_bipush (v := nI 8) hc d_Me_filled_5 rfl ?_
    refine fm_icmp_ge (tgt := 33) hc d_Me_filled_7 rfl (fun g => absurd g (hnle (a := 8) (c := k) hk (by omega))) (fun _ => ?_)
    refine fm_iload_n hc d_Me_filled_10 rfl rfl ?_
    refine fm_aload_n hc d_Me_filled_11 rfl rfl ?_
    refine fm_getR (k := 0) (q := mm + 1) hc K_Me d_Me_filled_12 q_305 rfl (by omega) (by omega) (ly_M0 hM) (by decide) (by decide) rfl hP.1 ?_
    refine fm_iload_n hc d_Me_filled_15 rfl rfl ?_
    refine fm_iald (j := k) (len := 8) hc 0 d_Me_filled_16 (by omega) (by omega) (ly_M hM (k := 1) (by omega)) rfl (by omega) (by decide) ?_
    refine fm_if_ne (tgt := 24) hc d_Me_filled_17 rfl (fun g => absurd (hz k hk) g) (fun _ => ?_)
    refine fm_iconst (v := nI 0) hc d_Me_filled_20 rfl ?_
    refine fm_goto (tgt := 25) hc d_Me_filled_21 rfl ?_
    refine fm_iadd hc d_Me_filled_25 ?_
    refine fm_top (congrArg Value.int (nI_add 0 0)) ?_
    refine fm_istore_n (lv' := [(1, .int (nI 0)), (2, .int (nI k)), (0, .ref mm)]) hc d_Me_filled_26 rfl (by decide) rfl ?_
    refine fm_iinc (v := nI (k + 1)) (lv' := [(2, .int (nI (k + 1))), (1, .int (nI 0)), (0, .ref mm)]) hc d_Me_filled_27 rfl (nI_1 k) (by decide) rfl ?_
    refine fm_goto (tgt := 4) hc d_Me_filled_30 rfl ?_
    exact ih
  · refine fm_iload_n hc d_Me_filled_4 rfl rfl ?_
    refine fm_bipush (v := nI 8) hc d_Me_filled_5 rfl ?_
    refine fm_icmp_ge (tgt := 33) hc d_Me_filled_7 rfl (fun _ => ?_) (fun g => absurd (by decide) g)
    refine fm_iload_n hc d_Me_filled_33 rfl rfl ?_
    exact fm_iret hc hr d_Me_filled_34 (Nat.le_refl _) (Nat.le_refl _) ⟨rfl, rfl, rfl⟩
theorem c_passTime0 {l : Launch} {b : Nat} {x : Nat → Nat} {D : va_G} {dA : Nat → ClassId} {mm : Nat} {n : Nat} {M : fm_M} (hn : 586 ≤ n) (hM : fm_isM mm) (hP : fm_MP M mm) (hz : ∀ i, i < 8 → M.1 (mm + 1) i = 0) : Met l y_Me_passTime (Cond.code y_Me_passTime b_Me_passTime 2 none :: fm_T0) ({ frames := 0, cells := 0, slots := 0, locals := 0 }) (fm_Pc fm_lay fm_nf fm_fk fm_cl b x D dA (fm_tys dA) (fm_EX b x) false [.ref mm] n M) (fm_Qc fm_lay fm_nf fm_fk fm_cl b x D dA (fun r n' M' => r = none ∧ n' = n ∧ M' = M)) 0 0 (fm_A b) := by
  refine fm_enter (by decide) (Nat.le_of_ble_eq_true rfl) ?_
  intro p e s m args below meth c hc hr hnm hex htg
  have hlo := isM_lo hM
  refine fm_iconst (v := nI 0) hc d_Me_passTime_0 rfl ?_
  refine fm_istore_n (lv' := [(1, .int (nI 0)), (0, .ref mm)]) hc d_Me_passTime_1 rfl (by decide) rfl ?_
  refine fm_loop0 (N := 8) (lv := fun k => [(1, .int (nI k)), (0, .ref mm)]) (fun k hk ih => ?_) ?_
  · refine fm_iload_n hc d_Me_passTime_2 rfl rfl ?_
    refine fm_bipush (v := nI 8) hc d_Me_passTime_3 rfl ?_
    refine fm_icmp_ge (tgt := 51) hc d_Me_passTime_5 rfl (fun g => absurd g (hnle (a := 8) (c := k) hk (by omega))) (fun _ => ?_)
    refine fm_aload_n hc d_Me_passTime_8 rfl rfl ?_
    refine fm_getR (k := 0) (q := mm + 1) hc K_Me d_Me_passTime_9 q_305 rfl (by omega) (by omega) (ly_M0 hM) (by decide) (by decide) rfl hP.1 ?_
    refine fm_iload_n hc d_Me_passTime_12 rfl rfl ?_
    refine fm_iald (j := k) (len := 8) hc 0 d_Me_passTime_13 (by omega) (by omega) (ly_M hM (k := 1) (by omega)) rfl (by omega) (by decide) ?_
    refine fm_iconst (v := nI 1) hc d_Me_passTime_14 rfl ?_
    refine fm_icmp_ne (tgt := 45) hc d_Me_passTime_15 rfl (fun _ => ?_) (fun g => absurd g (by rw [hz k hk]; decide))
    refine fm_iinc (v := nI (k + 1)) (lv' := [(1, .int (nI (k + 1))), (0, .ref mm)]) hc d_Me_passTime_45 rfl (nI_1 k) (by decide) rfl ?_
    refine fm_goto (tgt := 2) hc d_Me_passTime_48 rfl ?_
    exact ih
  · refine fm_iload_n hc d_Me_passTime_2 rfl rfl ?_
    refine fm_bipush (v := nI 8) hc d_Me_passTime_3 rfl ?_
    refine fm_icmp_ge (tgt := 51) hc d_Me_passTime_5 rfl (fun _ => ?_) (fun g => absurd (by decide) g)
    exact fm_vret hc hr d_Me_passTime_51 (Nat.le_refl _) (Nat.le_refl _) ⟨rfl, rfl, rfl⟩
theorem c_hopsOf0 {l : Launch} {b : Nat} {x : Nat → Nat} {D : va_G} {dA : Nat → ClassId} {mm i : Nat} {n : Nat} {M : fm_M} (hn : 586 ≤ n) (hM : fm_isM mm) (hP : fm_MP M mm) (hz : ∀ i, i < 8 → M.1 (mm + 1) i = 0) (hi : i < 8) : Met l y_Me_hopsOf (Cond.code y_Me_hopsOf b_Me_hopsOf 2 (some .int) :: fm_T0) ({ frames := 0, cells := 0, slots := 0, locals := 0 }) (fm_Pc fm_lay fm_nf fm_fk fm_cl b x D dA (fm_tys dA) (fm_EX b x) false [.ref mm, .int (nI i)] n M) (fm_Qc fm_lay fm_nf fm_fk fm_cl b x D dA (fun r n' M' => r = some (.int (-1)) ∧ n' = n ∧ M' = M)) 0 0 (fm_A b) := by
  refine fm_enter (by decide) (Nat.le_of_ble_eq_true rfl) ?_
  intro p e s m args below meth c hc hr hnm hex htg
  have hlo := isM_lo hM
  refine fm_aload_n hc d_Me_hopsOf_0 rfl rfl ?_
  refine fm_getR (k := 0) (q := mm + 1) hc K_Me d_Me_hopsOf_1 q_305 rfl (by omega) (by omega) (ly_M0 hM) (by decide) (by decide) rfl hP.1 ?_
  refine fm_iload_n hc d_Me_hopsOf_4 rfl rfl ?_
  refine fm_iald (j := i) (len := 8) hc 0 d_Me_hopsOf_5 (by omega) (by omega) (ly_M hM (k := 1) (by omega)) rfl (by omega) (by decide) ?_
  refine fm_if_ne (tgt := 13) hc d_Me_hopsOf_6 rfl (fun g => absurd (hz i hi) g) (fun _ => ?_)
  refine fm_iconst (v := (-1)) hc d_Me_hopsOf_9 rfl ?_
  refine fm_goto (tgt := 22) hc d_Me_hopsOf_10 rfl ?_
  exact fm_iret hc hr d_Me_hopsOf_22 (Nat.le_refl _) (Nat.le_refl _) ⟨rfl, rfl, rfl⟩
theorem c_Sycopy0 {l : Launch} {b : Nat} {x : Nat → Nat} {D : va_G} {dA : Nat → ClassId} {mm mo : Nat} {n : Nat} {M : fm_M} (hn : 586 ≤ n) (hM : fm_isM mm) (hMo : fm_isM mo) (hP : fm_MP M mm) (hPo : fm_MP M mo) (e7 : ∀ i, i < 8 → M.1 (mo + 7) i = M.1 (mm + 7) i) (e8 : ∀ i, i < 128 → M.1 (mo + 8) i = M.1 (mm + 8) i) : Met l y_Sy_copyFrom (Cond.code y_Sy_copyFrom b_Sy_copyFrom 2 none :: fm_T0) ({ frames := 1, cells := 0, slots := 0, locals := 40 }) (fm_Pc fm_lay fm_nf fm_fk fm_cl b x D dA (fm_tys dA) (fm_EX b x) false [.ref (mm + 6), .ref (mo + 6)] n M) (fm_Qc fm_lay fm_nf fm_fk fm_cl b x D dA (fun r n' M' => r = none ∧ n' = n ∧ M' = M)) 0 0 (fm_A b) := by
  refine fm_enter (by decide) (Nat.le_of_ble_eq_true rfl) ?_
  intro p e s m args below meth c hc hr hnm hex htg
  have hlo := isM_lo hM
  have hloo := isM_lo hMo
  refine fm_aload_n hc d_Sy_copyFrom_0 rfl rfl ?_
  refine fm_getR (k := 0) (q := mo + 7) hc K_Sy d_Sy_copyFrom_1 q_150 rfl (by omega) (by omega) (congrArg Prod.fst (ly_M hMo (k := 6) (by omega))) (by decide) (by decide) rfl hPo.2.2.2.2.2.2.1 ?_
  refine fm_iconst (v := nI 0) hc d_Sy_copyFrom_4 rfl ?_
  refine fm_aload_n hc d_Sy_copyFrom_5 rfl rfl ?_
  refine fm_getR (k := 0) (q := mm + 7) hc K_Sy d_Sy_copyFrom_6 q_150 rfl (by omega) (by omega) (congrArg Prod.fst (ly_M hM (k := 6) (by omega))) (by decide) (by decide) rfl hP.2.2.2.2.2.2.1 ?_
  refine fm_iconst (v := nI 0) hc d_Sy_copyFrom_9 rfl ?_
  refine fm_bipush (v := nI 8) hc d_Sy_copyFrom_10 rfl ?_
  refine fm_cpyI (o0 := mo + 7) (o1 := mm + 7) (l0 := 8) (l1 := 8) (sp := 0) (dp := 0) (k := 8) hc 0 q_768 q_586 q_585 q_20 d_Sy_copyFrom_12 (by omega) (by omega) (ly_M hMo (k := 7) (by omega)) (by omega) (by omega) (ly_M hM (k := 7) (by omega)) rfl (by omega) (by omega) (by decide) (by decide) (Nat.le_of_ble_eq_true rfl) (Nat.le_of_ble_eq_true rfl) ?_
  refine fm_mem (M' := M) rfl (c1_id e7) ?_
  refine fm_aload_n hc d_Sy_copyFrom_15 rfl rfl ?_
  refine fm_getR (k := 1) (q := mo + 8) hc K_Sy d_Sy_copyFrom_16 q_151 rfl (by omega) (by omega) (congrArg Prod.fst (ly_M hMo (k := 6) (by omega))) (by decide) (by decide) rfl hPo.2.2.2.2.2.2.2.1 ?_
  refine fm_iconst (v := nI 0) hc d_Sy_copyFrom_19 rfl ?_
  refine fm_aload_n hc d_Sy_copyFrom_20 rfl rfl ?_
  refine fm_getR (k := 1) (q := mm + 8) hc K_Sy d_Sy_copyFrom_21 q_151 rfl (by omega) (by omega) (congrArg Prod.fst (ly_M hM (k := 6) (by omega))) (by decide) (by decide) rfl hP.2.2.2.2.2.2.2.1 ?_
  refine fm_iconst (v := nI 0) hc d_Sy_copyFrom_24 rfl ?_
  refine fm_sipush (v := nI 128) hc d_Sy_copyFrom_25 rfl ?_
  refine fm_cpyI (o0 := mo + 8) (o1 := mm + 8) (l0 := 128) (l1 := 128) (sp := 0) (dp := 0) (k := 128) hc 0 q_768 q_586 q_585 q_20 d_Sy_copyFrom_28 (by omega) (by omega) (ly_M hMo (k := 8) (by omega)) (by omega) (by omega) (ly_M hM (k := 8) (by omega)) rfl (by omega) (by omega) (by decide) (by decide) (Nat.le_of_ble_eq_true rfl) (Nat.le_of_ble_eq_true rfl) ?_
  refine fm_mem (M' := M) rfl (c1_id e8) ?_
  exact fm_vret hc hr d_Sy_copyFrom_31 (Nat.le_refl _) (Nat.le_refl _) ⟨rfl, rfl, rfl⟩
theorem c_Mecopy0 {l : Launch} {b : Nat} {x : Nat → Nat} {D : va_G} {dA : Nat → ClassId} {mm mo : Nat} {n : Nat} {M : fm_M} (hn : 586 ≤ n) (hM : fm_isM mm) (hMo : fm_isM mo) (hP : fm_MP M mm) (hPo : fm_MP M mo) (hz : ∀ i, i < 8 → M.1 (mm + 1) i = 0) (e1 : ∀ i, i < 8 → M.1 (mo + 1) i = M.1 (mm + 1) i) (e2 : ∀ i, i < 8 → M.1 (mo + 2) i = M.1 (mm + 2) i) (e3 : ∀ i, i < 8 → M.1 (mo + 3) i = M.1 (mm + 3) i) (e4 : ∀ i, i < 8 → M.1 (mo + 4) i = M.1 (mm + 4) i) (e7 : ∀ i, i < 8 → M.1 (mo + 7) i = M.1 (mm + 7) i) (e8 : ∀ i, i < 128 → M.1 (mo + 8) i = M.1 (mm + 8) i) : Met l y_Me_copyFrom (Cond.code y_Me_copyFrom b_Me_copyFrom 3 none :: fm_T0) ({ frames := 2, cells := 0, slots := 0, locals := 80 }) (fm_Pc fm_lay fm_nf fm_fk fm_cl b x D dA (fm_tys dA) (fm_EX b x) false [.ref mm, .ref mo] n M) (fm_Qc fm_lay fm_nf fm_fk fm_cl b x D dA (fun r n' M' => r = none ∧ n' = n ∧ M' = M)) 0 0 (fm_A b) := by
  refine fm_enter (by decide) (Nat.le_of_ble_eq_true rfl) ?_
  intro p e s m args below meth c hc hr hnm hex htg
  have hlo := isM_lo hM
  have hloo := isM_lo hMo
  refine fm_aload_n hc d_Me_copyFrom_0 rfl rfl ?_
  refine fm_getR (k := 0) (q := mo + 1) hc K_Me d_Me_copyFrom_1 q_305 rfl (by omega) (by omega) (ly_M0 hMo) (by decide) (by decide) rfl hPo.1 ?_
  refine fm_iconst (v := nI 0) hc d_Me_copyFrom_4 rfl ?_
  refine fm_aload_n hc d_Me_copyFrom_5 rfl rfl ?_
  refine fm_getR (k := 0) (q := mm + 1) hc K_Me d_Me_copyFrom_6 q_305 rfl (by omega) (by omega) (ly_M0 hM) (by decide) (by decide) rfl hP.1 ?_
  refine fm_iconst (v := nI 0) hc d_Me_copyFrom_9 rfl ?_
  refine fm_bipush (v := nI 8) hc d_Me_copyFrom_10 rfl ?_
  refine fm_cpyI (o0 := mo + 1) (o1 := mm + 1) (l0 := 8) (l1 := 8) (sp := 0) (dp := 0) (k := 8) hc 0 q_763 q_586 q_585 q_20 d_Me_copyFrom_12 (by omega) (by omega) (ly_M hMo (k := 1) (by omega)) (by omega) (by omega) (ly_M hM (k := 1) (by omega)) rfl (by omega) (by omega) (by decide) (by decide) (Nat.le_of_ble_eq_true rfl) (Nat.le_of_ble_eq_true rfl) ?_
  refine fm_mem (M' := M) rfl (c1_id e1) ?_
  refine fm_aload_n hc d_Me_copyFrom_15 rfl rfl ?_
  refine fm_getR (k := 1) (q := mo + 2) hc K_Me d_Me_copyFrom_16 q_308 rfl (by omega) (by omega) (ly_M0 hMo) (by decide) (by decide) rfl hPo.2.1 ?_
  refine fm_iconst (v := nI 0) hc d_Me_copyFrom_19 rfl ?_
  refine fm_aload_n hc d_Me_copyFrom_20 rfl rfl ?_
  refine fm_getR (k := 1) (q := mm + 2) hc K_Me d_Me_copyFrom_21 q_308 rfl (by omega) (by omega) (ly_M0 hM) (by decide) (by decide) rfl hP.2.1 ?_
  refine fm_iconst (v := nI 0) hc d_Me_copyFrom_24 rfl ?_
  refine fm_bipush (v := nI 8) hc d_Me_copyFrom_25 rfl ?_
  refine fm_cpyI (o0 := mo + 2) (o1 := mm + 2) (l0 := 8) (l1 := 8) (sp := 0) (dp := 0) (k := 8) hc 0 q_763 q_586 q_585 q_20 d_Me_copyFrom_27 (by omega) (by omega) (ly_M hMo (k := 2) (by omega)) (by omega) (by omega) (ly_M hM (k := 2) (by omega)) rfl (by omega) (by omega) (by decide) (by decide) (Nat.le_of_ble_eq_true rfl) (Nat.le_of_ble_eq_true rfl) ?_
  refine fm_mem (M' := M) rfl (c1_id e2) ?_
  refine fm_aload_n hc d_Me_copyFrom_30 rfl rfl ?_
  refine fm_getR (k := 2) (q := mo + 3) hc K_Me d_Me_copyFrom_31 q_310 rfl (by omega) (by omega) (ly_M0 hMo) (by decide) (by decide) rfl hPo.2.2.1 ?_
  refine fm_iconst (v := nI 0) hc d_Me_copyFrom_34 rfl ?_
  refine fm_aload_n hc d_Me_copyFrom_35 rfl rfl ?_
  refine fm_getR (k := 2) (q := mm + 3) hc K_Me d_Me_copyFrom_36 q_310 rfl (by omega) (by omega) (ly_M0 hM) (by decide) (by decide) rfl hP.2.2.1 ?_
  refine fm_iconst (v := nI 0) hc d_Me_copyFrom_39 rfl ?_
  refine fm_bipush (v := nI 8) hc d_Me_copyFrom_40 rfl ?_
  refine fm_cpyI (o0 := mo + 3) (o1 := mm + 3) (l0 := 8) (l1 := 8) (sp := 0) (dp := 0) (k := 8) hc 0 q_763 q_586 q_585 q_20 d_Me_copyFrom_42 (by omega) (by omega) (ly_M hMo (k := 3) (by omega)) (by omega) (by omega) (ly_M hM (k := 3) (by omega)) rfl (by omega) (by omega) (by decide) (by decide) (Nat.le_of_ble_eq_true rfl) (Nat.le_of_ble_eq_true rfl) ?_
  refine fm_mem (M' := M) rfl (c1_id e3) ?_
  refine fm_aload_n hc d_Me_copyFrom_45 rfl rfl ?_
  refine fm_getR (k := 3) (q := mo + 4) hc K_Me d_Me_copyFrom_46 q_312 rfl (by omega) (by omega) (ly_M0 hMo) (by decide) (by decide) rfl hPo.2.2.2.1 ?_
  refine fm_iconst (v := nI 0) hc d_Me_copyFrom_49 rfl ?_
  refine fm_aload_n hc d_Me_copyFrom_50 rfl rfl ?_
  refine fm_getR (k := 3) (q := mm + 4) hc K_Me d_Me_copyFrom_51 q_312 rfl (by omega) (by omega) (ly_M0 hM) (by decide) (by decide) rfl hP.2.2.2.1 ?_
  refine fm_iconst (v := nI 0) hc d_Me_copyFrom_54 rfl ?_
  refine fm_bipush (v := nI 8) hc d_Me_copyFrom_55 rfl ?_
  refine fm_cpyI (o0 := mo + 4) (o1 := mm + 4) (l0 := 8) (l1 := 8) (sp := 0) (dp := 0) (k := 8) hc 0 q_763 q_586 q_585 q_20 d_Me_copyFrom_57 (by omega) (by omega) (ly_M hMo (k := 4) (by omega)) (by omega) (by omega) (ly_M hM (k := 4) (by omega)) rfl (by omega) (by omega) (by decide) (by decide) (Nat.le_of_ble_eq_true rfl) (Nat.le_of_ble_eq_true rfl) ?_
  refine fm_mem (M' := M) rfl (c1_id e4) ?_
  refine fm_aload_n hc d_Me_copyFrom_60 rfl rfl ?_
  refine fm_getR (k := 5) (q := mm + 6) hc K_Me d_Me_copyFrom_61 q_317 rfl (by omega) (by omega) (ly_M0 hM) (by decide) (by decide) rfl hP.2.2.2.2.2.1 ?_
  refine fm_aload_n hc d_Me_copyFrom_64 rfl rfl ?_
  refine fm_getR (k := 5) (q := mo + 6) hc K_Me d_Me_copyFrom_65 q_317 rfl (by omega) (by omega) (ly_M0 hMo) (by decide) (by decide) rfl hPo.2.2.2.2.2.1 ?_
  refine fm_callV (av := [.ref (mo + 6)]) (rest := []) (ob := mm + 6) (ci := 2) (r0 := ("AgentNet$Sayings", F_Sy, 2)) (y := y_Sy_copyFrom) (bytes := b_Sy_copyFrom) hc fm_T0_good (fm_EX_st b x) hex q_767 q_6 q_764 q_765 q_766 pd_Sy_copyFrom (by omega) (by omega) (congrArg Prod.fst (ly_M hM (k := 6) (by omega))) (by decide) rfl rfl (c_Sycopy0 hn hM hMo hP hPo e7 e8) ⟨rfl, rfl, Nat.le_of_ble_eq_true rfl, Nat.le_of_ble_eq_true rfl⟩ ⟨Nat.le_of_ble_eq_true rfl, Nat.le_of_ble_eq_true rfl⟩ d_Me_copyFrom_68 (Nat.le_of_ble_eq_true rfl) (fun r n2 M2 hp => ?_)
  obtain ⟨rfl, hq1, hq2⟩ := hp
  replace hq1 := hq1.symm
  replace hq2 := hq2.symm
  subst hq1 hq2
  refine fm_cnt (z' := (0, 0)) rfl (fm_st (st' := []) rfl ?_)
  refine fm_iconst (v := nI 0) hc d_Me_copyFrom_71 rfl ?_
  refine fm_istore_n (lv' := [(2, .int (nI 0)), (0, .ref mm), (1, .ref mo)]) hc d_Me_copyFrom_72 rfl (by decide) rfl ?_
  refine fm_loop0 (N := 8) (lv := fun k => [(2, .int (nI k)), (0, .ref mm), (1, .ref mo)]) (fun k hk ih => ?_) ?_
  · refine fm_iload_n hc d_Me_copyFrom_73 rfl rfl ?_
    refine fm_bipush (v := nI 8) hc d_Me_copyFrom_74 rfl ?_
    refine fm_icmp_ge (tgt := 109) hc d_Me_copyFrom_76 rfl (fun g => absurd g (hnle (a := 8) (c := k) hk (by omega))) (fun _ => ?_)
    refine fm_aload_n hc d_Me_copyFrom_79 rfl rfl ?_
    refine fm_getR (k := 0) (q := mm + 1) hc K_Me d_Me_copyFrom_80 q_305 rfl (by omega) (by omega) (ly_M0 hM) (by decide) (by decide) rfl hP.1 ?_
    refine fm_iload_n hc d_Me_copyFrom_83 rfl rfl ?_
    refine fm_iald (j := k) (len := 8) hc 0 d_Me_copyFrom_84 (by omega) (by omega) (ly_M hM (k := 1) (by omega)) rfl (by omega) (by decide) ?_
    refine fm_if_eq (tgt := 103) hc d_Me_copyFrom_85 rfl (fun _ => ?_) (fun g => absurd (hz k hk) g)
    refine fm_iinc (v := nI (k + 1)) (lv' := [(2, .int (nI (k + 1))), (0, .ref mm), (1, .ref mo)]) hc d_Me_copyFrom_103 rfl (nI_1 k) (by decide) rfl ?_
    refine fm_goto (tgt := 73) hc d_Me_copyFrom_106 rfl ?_
    exact ih
  · refine fm_iload_n hc d_Me_copyFrom_73 rfl rfl ?_
    refine fm_bipush (v := nI 8) hc d_Me_copyFrom_74 rfl ?_
    refine fm_icmp_ge (tgt := 109) hc d_Me_copyFrom_76 rfl (fun _ => ?_) (fun g => absurd (by decide) g)
    exact fm_vret hc hr d_Me_copyFrom_109 (Nat.le_refl _) (Nat.le_refl _) ⟨rfl, rfl, rfl⟩
theorem sh0 (v : Int32) : ((nI 0) >>> v) &&& (nI 1) = 0 := by
  rw [show nI 0 = (0 : Int32) from rfl]
  simp
theorem c_valueOf_bad {l : Launch} {b : Nat} {x : Nat → Nat} {D : va_G} {dA : Nat → ClassId} {o q : Nat} {v w : Int32} {n : Nat} {M : fm_M} (h8 : 8 ≤ o) (ho : o < n) (hl : (fm_lay o).1 = 2) (hq8 : 8 ≤ q) (hqn : q < n) (hql : fm_lay q = (100, 8)) (hq0 : M.2.2 o 0 = some q) (hv : ¬ fm_in 8 v) : Met l y_Sy_valueOf (Cond.code y_Sy_valueOf b_Sy_valueOf 3 (some .long) :: fm_T0) ({ frames := 1, cells := 0, slots := 0, locals := 20 }) (fm_Pc fm_lay fm_nf fm_fk fm_cl b x D dA (fm_tys dA) (fm_EX b x) false [.ref o, .int v, .int w] n M) (fm_Qc fm_lay fm_nf fm_fk fm_cl b x D dA (fun r n' M' => r = some (.long 1099511627776) ∧ n' = n ∧ M' = M)) 0 0 (fm_A b) := by
  refine fm_enter (by decide) (Nat.le_of_ble_eq_true rfl) ?_
  intro p e s m args below meth c hc hr hnm hex htg
  refine fm_iload_n hc d_Sy_valueOf_0 rfl rfl ?_
  refine fm_callSN (av := [.int v]) (rest := []) (y := y_An_isAgent) (bytes := b_An_isAgent) hc fm_T0_good (fm_EX_st b x) hex q_416 q_1 (nx_11 hex) q_415 pd_An_isAgent (c_An_isAgent_no hv) ⟨rfl, rfl, Nat.le_of_ble_eq_true rfl, Nat.le_of_ble_eq_true rfl⟩ ⟨Nat.le_of_ble_eq_true rfl, Nat.le_of_ble_eq_true rfl⟩ d_Sy_valueOf_1 (Nat.le_of_ble_eq_true rfl) (fun r n2 M2 hp => ?_)
  obtain ⟨rfl, hq1, hq2⟩ := hp
  replace hq1 := hq1.symm
  replace hq2 := hq2.symm
  subst hq1 hq2
  refine fm_cnt (z' := (0, 0)) rfl (fm_st (st' := [.int (nI 0)]) rfl ?_)
  refine fm_if_eq (tgt := 30) hc d_Sy_valueOf_4 rfl (fun _ => ?_) (fun g => absurd (by decide) g)
  refine fm_ldc2 (v := 1099511627776) hc d_Sy_valueOf_30 q_471 ?_
  exact fm_lret hc hr d_Sy_valueOf_33 (Nat.le_refl _) (Nat.le_refl _) ⟨rfl, rfl, rfl⟩
theorem c_valueOf_lo {l : Launch} {b : Nat} {x : Nat → Nat} {D : va_G} {dA : Nat → ClassId} {o q : Nat} {v w : Int32} {n : Nat} {M : fm_M} (h8 : 8 ≤ o) (ho : o < n) (hl : (fm_lay o).1 = 2) (hq8 : 8 ≤ q) (hqn : q < n) (hql : fm_lay q = (100, 8)) (hq0 : M.2.2 o 0 = some q) (hv : fm_in 8 v) (hw : w < 0) : Met l y_Sy_valueOf (Cond.code y_Sy_valueOf b_Sy_valueOf 3 (some .long) :: fm_T0) ({ frames := 1, cells := 0, slots := 0, locals := 20 }) (fm_Pc fm_lay fm_nf fm_fk fm_cl b x D dA (fm_tys dA) (fm_EX b x) false [.ref o, .int v, .int w] n M) (fm_Qc fm_lay fm_nf fm_fk fm_cl b x D dA (fun r n' M' => r = some (.long 1099511627776) ∧ n' = n ∧ M' = M)) 0 0 (fm_A b) := by
  refine fm_enter (by decide) (Nat.le_of_ble_eq_true rfl) ?_
  intro p e s m args below meth c hc hr hnm hex htg
  refine fm_iload_n hc d_Sy_valueOf_0 rfl rfl ?_
  refine fm_callSN (av := [.int v]) (rest := []) (y := y_An_isAgent) (bytes := b_An_isAgent) hc fm_T0_good (fm_EX_st b x) hex q_416 q_1 (nx_11 hex) q_415 pd_An_isAgent (c_An_isAgent_ok hv) ⟨rfl, rfl, Nat.le_of_ble_eq_true rfl, Nat.le_of_ble_eq_true rfl⟩ ⟨Nat.le_of_ble_eq_true rfl, Nat.le_of_ble_eq_true rfl⟩ d_Sy_valueOf_1 (Nat.le_of_ble_eq_true rfl) (fun r n2 M2 hp => ?_)
  obtain ⟨rfl, hq1, hq2⟩ := hp
  replace hq1 := hq1.symm
  replace hq2 := hq2.symm
  subst hq1 hq2
  refine fm_cnt (z' := (0, 0)) rfl (fm_st (st' := [.int (nI 1)]) rfl ?_)
  refine fm_if_eq (tgt := 30) hc d_Sy_valueOf_4 rfl (fun g => absurd g (by decide)) (fun _ => ?_)
  refine fm_iload_n hc d_Sy_valueOf_7 rfl rfl ?_
  refine fm_if_lt (tgt := 30) hc d_Sy_valueOf_8 rfl (fun _ => ?_) (fun g => absurd hw g)
  refine fm_ldc2 (v := 1099511627776) hc d_Sy_valueOf_30 q_471 ?_
  exact fm_lret hc hr d_Sy_valueOf_33 (Nat.le_refl _) (Nat.le_refl _) ⟨rfl, rfl, rfl⟩
theorem c_valueOf_hi {l : Launch} {b : Nat} {x : Nat → Nat} {D : va_G} {dA : Nat → ClassId} {o q : Nat} {v w : Int32} {n : Nat} {M : fm_M} (h8 : 8 ≤ o) (ho : o < n) (hl : (fm_lay o).1 = 2) (hq8 : 8 ≤ q) (hqn : q < n) (hql : fm_lay q = (100, 8)) (hq0 : M.2.2 o 0 = some q) (hv : fm_in 8 v) (hw : ¬ w < 0) (hw2 : nI 16 ≤ w) : Met l y_Sy_valueOf (Cond.code y_Sy_valueOf b_Sy_valueOf 3 (some .long) :: fm_T0) ({ frames := 1, cells := 0, slots := 0, locals := 20 }) (fm_Pc fm_lay fm_nf fm_fk fm_cl b x D dA (fm_tys dA) (fm_EX b x) false [.ref o, .int v, .int w] n M) (fm_Qc fm_lay fm_nf fm_fk fm_cl b x D dA (fun r n' M' => r = some (.long 1099511627776) ∧ n' = n ∧ M' = M)) 0 0 (fm_A b) := by
  refine fm_enter (by decide) (Nat.le_of_ble_eq_true rfl) ?_
  intro p e s m args below meth c hc hr hnm hex htg
  refine fm_iload_n hc d_Sy_valueOf_0 rfl rfl ?_
  refine fm_callSN (av := [.int v]) (rest := []) (y := y_An_isAgent) (bytes := b_An_isAgent) hc fm_T0_good (fm_EX_st b x) hex q_416 q_1 (nx_11 hex) q_415 pd_An_isAgent (c_An_isAgent_ok hv) ⟨rfl, rfl, Nat.le_of_ble_eq_true rfl, Nat.le_of_ble_eq_true rfl⟩ ⟨Nat.le_of_ble_eq_true rfl, Nat.le_of_ble_eq_true rfl⟩ d_Sy_valueOf_1 (Nat.le_of_ble_eq_true rfl) (fun r n2 M2 hp => ?_)
  obtain ⟨rfl, hq1, hq2⟩ := hp
  replace hq1 := hq1.symm
  replace hq2 := hq2.symm
  subst hq1 hq2
  refine fm_cnt (z' := (0, 0)) rfl (fm_st (st' := [.int (nI 1)]) rfl ?_)
  refine fm_if_eq (tgt := 30) hc d_Sy_valueOf_4 rfl (fun g => absurd g (by decide)) (fun _ => ?_)
  refine fm_iload_n hc d_Sy_valueOf_7 rfl rfl ?_
  refine fm_if_lt (tgt := 30) hc d_Sy_valueOf_8 rfl (fun g => absurd g hw) (fun _ => ?_)
  refine fm_iload_n hc d_Sy_valueOf_11 rfl rfl ?_
  refine fm_bipush (v := nI 16) hc d_Sy_valueOf_12 rfl ?_
  refine fm_icmp_ge (tgt := 30) hc d_Sy_valueOf_14 rfl (fun _ => ?_) (fun g => absurd hw2 g)
  refine fm_ldc2 (v := 1099511627776) hc d_Sy_valueOf_30 q_471 ?_
  exact fm_lret hc hr d_Sy_valueOf_33 (Nat.le_refl _) (Nat.le_refl _) ⟨rfl, rfl, rfl⟩
theorem c_valueOf_no {l : Launch} {b : Nat} {x : Nat → Nat} {D : va_G} {dA : Nat → ClassId} {o q i : Nat} {w : Int32} {n : Nat} {M : fm_M} (h8 : 8 ≤ o) (ho : o < n) (hl : (fm_lay o).1 = 2) (hq8 : 8 ≤ q) (hqn : q < n) (hql : fm_lay q = (100, 8)) (hq0 : M.2.2 o 0 = some q) (hi : i < 8) (hw : ¬ w < 0) (hw2 : ¬ nI 16 ≤ w) (hb : (M.1 q i >>> (w &&& 31)) &&& (nI 1) = 0) : Met l y_Sy_valueOf (Cond.code y_Sy_valueOf b_Sy_valueOf 3 (some .long) :: fm_T0) ({ frames := 1, cells := 0, slots := 0, locals := 20 }) (fm_Pc fm_lay fm_nf fm_fk fm_cl b x D dA (fm_tys dA) (fm_EX b x) false [.ref o, .int (nI i), .int w] n M) (fm_Qc fm_lay fm_nf fm_fk fm_cl b x D dA (fun r n' M' => r = some (.long 1099511627776) ∧ n' = n ∧ M' = M)) 0 0 (fm_A b) := by
  refine fm_enter (by decide) (Nat.le_of_ble_eq_true rfl) ?_
  intro p e s m args below meth c hc hr hnm hex htg
  refine fm_iload_n hc d_Sy_valueOf_0 rfl rfl ?_
  refine fm_callSN (av := [.int (nI i)]) (rest := []) (y := y_An_isAgent) (bytes := b_An_isAgent) hc fm_T0_good (fm_EX_st b x) hex q_416 q_1 (nx_11 hex) q_415 pd_An_isAgent (c_An_isAgent_ok (in8_of hi)) ⟨rfl, rfl, Nat.le_of_ble_eq_true rfl, Nat.le_of_ble_eq_true rfl⟩ ⟨Nat.le_of_ble_eq_true rfl, Nat.le_of_ble_eq_true rfl⟩ d_Sy_valueOf_1 (Nat.le_of_ble_eq_true rfl) (fun r n2 M2 hp => ?_)
  obtain ⟨rfl, hq1, hq2⟩ := hp
  replace hq1 := hq1.symm
  replace hq2 := hq2.symm
  subst hq1 hq2
  refine fm_cnt (z' := (0, 0)) rfl (fm_st (st' := [.int (nI 1)]) rfl ?_)
  refine fm_if_eq (tgt := 30) hc d_Sy_valueOf_4 rfl (fun g => absurd g (by decide)) (fun _ => ?_)
  refine fm_iload_n hc d_Sy_valueOf_7 rfl rfl ?_
  refine fm_if_lt (tgt := 30) hc d_Sy_valueOf_8 rfl (fun g => absurd g hw) (fun _ => ?_)
  refine fm_iload_n hc d_Sy_valueOf_11 rfl rfl ?_
  refine fm_bipush (v := nI 16) hc d_Sy_valueOf_12 rfl ?_
  refine fm_icmp_ge (tgt := 30) hc d_Sy_valueOf_14 rfl (fun g => absurd g hw2) (fun _ => ?_)
  refine fm_aload_n hc d_Sy_valueOf_17 rfl rfl ?_
  refine fm_getR (k := 0) (q := q) hc K_Sy d_Sy_valueOf_18 q_150 rfl h8 ho hl (by decide) (by decide) rfl hq0 ?_
  refine fm_iload_n hc d_Sy_valueOf_21 rfl rfl ?_
  refine fm_iald (j := i) (len := 8) hc 0 d_Sy_valueOf_22 hq8 hqn hql rfl (by omega) (by decide) ?_
  refine fm_iload_n hc d_Sy_valueOf_23 rfl rfl ?_
  refine fm_ishr hc d_Sy_valueOf_24 ?_
  refine fm_iconst (v := nI 1) hc d_Sy_valueOf_25 rfl ?_
  refine fm_iand hc d_Sy_valueOf_26 ?_
  refine fm_if_ne (tgt := 34) hc d_Sy_valueOf_27 rfl (fun g => absurd hb g) (fun _ => ?_)
  refine fm_ldc2 (v := 1099511627776) hc d_Sy_valueOf_30 q_471 ?_
  exact fm_lret hc hr d_Sy_valueOf_33 (Nat.le_refl _) (Nat.le_refl _) ⟨rfl, rfl, rfl⟩
