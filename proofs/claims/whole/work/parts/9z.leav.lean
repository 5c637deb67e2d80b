/-! THE CLASS: hopsOf, isLeaving -/
theorem c_hopsNo {l : Launch} {b : Nat} {x : Nat → Nat} {D : va_G} {dA : Nat → ClassId} {mm a sl : Nat} {n : Nat} {M : fm_M} (hn : 586 ≤ n) (hM : fm_isM mm) (hP : fm_MP M mm) (ha : a < 8) (hs : M.1 (mm + 1) a = nI sl) (hs4 : sl ≤ 4) (h0 : sl = 0) : Met l y_Me_hopsOf (Cond.code y_Me_hopsOf b_Me_hopsOf 2 (some .int) :: fm_T0) ({ frames := 0, cells := 0, slots := 0, locals := 0 }) (fm_Pc fm_lay fm_nf fm_fk fm_cl b x D dA (fm_tys dA) (fm_EX b x) false [.ref mm, .int (nI a)] n M) (fm_Qc fm_lay fm_nf fm_fk fm_cl b x D dA (fun r n' M' => r = some (.int (-1)) ∧ n' = n ∧ M' = M)) 0 0 (fm_A b) := by
  refine fm_enter (by decide) (Nat.le_of_ble_eq_true rfl) ?_
  intro p e s m args below meth c9 hc hr hnm hex htg
  have hlo := isM_lo hM
  refine fm_aload_n hc d_Me_hopsOf_0 rfl rfl ?_
  refine fm_getR (k := 0) (q := mm + 1) hc K_Me d_Me_hopsOf_1 q_305 rfl (by omega) (by omega) (ly_M0 hM) (by decide) (by decide) rfl hP.1 ?_
  refine fm_iload_n hc d_Me_hopsOf_4 rfl rfl ?_
  refine fm_iald (j := a) (len := 8) hc 0 d_Me_hopsOf_5 (by omega) (by omega) (ly_M hM (k := 1) (by omega)) rfl (by omega) (by decide) ?_
  refine fm_top (congrArg Value.int hs) ?_
  refine fm_if_ne (tgt := 13) hc d_Me_hopsOf_6 rfl (fun g => absurd (congrArg nI h0) g) (fun _ => ?_)
  refine fm_iconst (v := (-1)) hc d_Me_hopsOf_9 rfl ?_
  refine fm_goto (tgt := 22) hc d_Me_hopsOf_10 rfl ?_
  exact fm_iret hc hr d_Me_hopsOf_22 (Nat.le_refl _) (Nat.le_refl _) ⟨rfl, rfl, rfl⟩
theorem c_hopsYes {l : Launch} {b : Nat} {x : Nat → Nat} {D : va_G} {dA : Nat → ClassId} {mm a sl hp : Nat} {n : Nat} {M : fm_M} (hn : 586 ≤ n) (hM : fm_isM mm) (hP : fm_MP M mm) (ha : a < 8) (hs : M.1 (mm + 1) a = nI sl) (hs4 : sl ≤ 4) (hh : M.1 (mm + (9 + 4 * a)) 4 = nI hp) (hp2 : hp < 1000) (h0 : ¬ sl = 0) : Met l y_Me_hopsOf (Cond.code y_Me_hopsOf b_Me_hopsOf 2 (some .int) :: fm_T0) ({ frames := 0, cells := 0, slots := 0, locals := 0 }) (fm_Pc fm_lay fm_nf fm_fk fm_cl b x D dA (fm_tys dA) (fm_EX b x) false [.ref mm, .int (nI a)] n M) (fm_Qc fm_lay fm_nf fm_fk fm_cl b x D dA (fun r n' M' => r = some (.int (nI hp)) ∧ n' = n ∧ M' = M)) 0 0 (fm_A b) := by
  refine fm_enter (by decide) (Nat.le_of_ble_eq_true rfl) ?_
  intro p e s m args below meth c9 hc hr hnm hex htg
  have hlo := isM_lo hM
  refine fm_aload_n hc d_Me_hopsOf_0 rfl rfl ?_
  refine fm_getR (k := 0) (q := mm + 1) hc K_Me d_Me_hopsOf_1 q_305 rfl (by omega) (by omega) (ly_M0 hM) (by decide) (by decide) rfl hP.1 ?_
  refine fm_iload_n hc d_Me_hopsOf_4 rfl rfl ?_
  refine fm_iald (j := a) (len := 8) hc 0 d_Me_hopsOf_5 (by omega) (by omega) (ly_M hM (k := 1) (by omega)) rfl (by omega) (by decide) ?_
  refine fm_top (congrArg Value.int hs) ?_
  refine fm_if_ne (tgt := 13) hc d_Me_hopsOf_6 rfl (fun _ => ?_) (fun g => absurd g (fun e => h0 (nI_inj (c := 0) (by omega) (by decide) e)))
  refine fm_aload_n hc d_Me_hopsOf_13 rfl rfl ?_
  refine fm_getR (k := 4) (q := mm + 5) hc K_Me d_Me_hopsOf_14 q_314 rfl (by omega) (by omega) (ly_M0 hM) (by decide) (by decide) rfl hP.2.2.2.2.1 ?_
  refine fm_iload_n hc d_Me_hopsOf_17 rfl rfl ?_
  refine fm_aald (q := mm + (9 + 4 * a)) (j := a) (len := 8) hc 7 d_Me_hopsOf_18 (by omega) (by omega) (ly_M hM (k := 5) (by omega)) (by decide) rfl (by omega) (by decide) (hP.2.2.2.2.2.2.2.2 a ha).1 ?_
  refine fm_getI (k := 4) hc K_Tr d_Me_hopsOf_19 q_192 rfl (by omega) (by omega) (ly_Mt hM ha) (by decide) (by decide) rfl ?_
  refine fm_top (congrArg Value.int hh) ?_
  exact fm_iret hc hr d_Me_hopsOf_22 (Nat.le_refl _) (Nat.le_refl _) ⟨rfl, rfl, rfl⟩
theorem c_leav0 {l : Launch} {b : Nat} {x : Nat → Nat} {D : va_G} {dA : Nat → ClassId} {mm a sl q : Nat} {n : Nat} {M : fm_M} (hn : 586 ≤ n) (hM : fm_isM mm) (hP : fm_MP M mm) (ha : a < 8) (hs : M.1 (mm + 1) a = nI sl) (hs4 : sl ≤ 4) (h0 : ¬ sl = 2) : Met l y_Me_isLeaving (Cond.code y_Me_isLeaving b_Me_isLeaving 3 (some .boolean) :: fm_T0) ({ frames := 0, cells := 0, slots := 0, locals := 0 }) (fm_Pc fm_lay fm_nf fm_fk fm_cl b x D dA (fm_tys dA) (fm_EX b x) false [.ref mm, .int (nI a), .int (nI q)] n M) (fm_Qc fm_lay fm_nf fm_fk fm_cl b x D dA (fun r n' M' => r = some (.int (nI 0)) ∧ n' = n ∧ M' = M)) 0 0 (fm_A b) := by
  refine fm_enter (by decide) (Nat.le_of_ble_eq_true rfl) ?_
  intro p e s m args below meth c9 hc hr hnm hex htg
  have hlo := isM_lo hM
  refine fm_aload_n hc d_Me_isLeaving_0 rfl rfl ?_
  refine fm_getR (k := 0) (q := mm + 1) hc K_Me d_Me_isLeaving_1 q_305 rfl (by omega) (by omega) (ly_M0 hM) (by decide) (by decide) rfl hP.1 ?_
  refine fm_iload_n hc d_Me_isLeaving_4 rfl rfl ?_
  refine fm_iald (j := a) (len := 8) hc 0 d_Me_isLeaving_5 (by omega) (by omega) (ly_M hM (k := 1) (by omega)) rfl (by omega) (by decide) ?_
  refine fm_top (congrArg Value.int hs) ?_
  refine fm_iconst (v := nI 2) hc d_Me_isLeaving_6 rfl ?_
  refine fm_icmp_ne (tgt := 27) hc d_Me_isLeaving_7 rfl (fun _ => ?_) (fun g => absurd g (fun e => h0 (nI_inj (by omega) (by decide) e)))
  refine fm_iconst (v := nI 0) hc d_Me_isLeaving_27 rfl ?_
  exact fm_zret (ty := .boolean) hc hr (by first | rfl | decide) d_Me_isLeaving_28 (Nat.le_refl _) (Nat.le_refl _) ⟨rfl, rfl, rfl⟩
theorem c_leav1 {l : Launch} {b : Nat} {x : Nat → Nat} {D : va_G} {dA : Nat → ClassId} {mm a sl hp q : Nat} {n : Nat} {M : fm_M} (hn : 586 ≤ n) (hM : fm_isM mm) (hP : fm_MP M mm) (ha : a < 8) (hs : M.1 (mm + 1) a = nI sl) (hs4 : sl ≤ 4) (hh : M.1 (mm + (9 + 4 * a)) 4 = nI hp) (hp2 : hp < 1000) (hq : q < 1000) (h0 : sl = 2) (h1 : hp = q) : Met l y_Me_isLeaving (Cond.code y_Me_isLeaving b_Me_isLeaving 3 (some .boolean) :: fm_T0) ({ frames := 0, cells := 0, slots := 0, locals := 0 }) (fm_Pc fm_lay fm_nf fm_fk fm_cl b x D dA (fm_tys dA) (fm_EX b x) false [.ref mm, .int (nI a), .int (nI q)] n M) (fm_Qc fm_lay fm_nf fm_fk fm_cl b x D dA (fun r n' M' => r = some (.int (nI 1)) ∧ n' = n ∧ M' = M)) 0 0 (fm_A b) := by
  refine fm_enter (by decide) (Nat.le_of_ble_eq_true rfl) ?_
  intro p e s m args below meth c9 hc hr hnm hex htg
  have hlo := isM_lo hM
  refine fm_aload_n hc d_Me_isLeaving_0 rfl rfl ?_
  refine fm_getR (k := 0) (q := mm + 1) hc K_Me d_Me_isLeaving_1 q_305 rfl (by omega) (by omega) (ly_M0 hM) (by decide) (by decide) rfl hP.1 ?_
  refine fm_iload_n hc d_Me_isLeaving_4 rfl rfl ?_
  refine fm_iald (j := a) (len := 8) hc 0 d_Me_isLeaving_5 (by omega) (by omega) (ly_M hM (k := 1) (by omega)) rfl (by omega) (by decide) ?_
  refine fm_top (congrArg Value.int hs) ?_
  refine fm_iconst (v := nI 2) hc d_Me_isLeaving_6 rfl ?_
  refine fm_icmp_ne (tgt := 27) hc d_Me_isLeaving_7 rfl (fun g => absurd (congrArg nI h0) g) (fun _ => ?_)
  refine fm_aload_n hc d_Me_isLeaving_10 rfl rfl ?_
  refine fm_getR (k := 4) (q := mm + 5) hc K_Me d_Me_isLeaving_11 q_314 rfl (by omega) (by omega) (ly_M0 hM) (by decide) (by decide) rfl hP.2.2.2.2.1 ?_
  refine fm_iload_n hc d_Me_isLeaving_14 rfl rfl ?_
  refine fm_aald (q := mm + (9 + 4 * a)) (j := a) (len := 8) hc 7 d_Me_isLeaving_15 (by omega) (by omega) (ly_M hM (k := 5) (by omega)) (by decide) rfl (by omega) (by decide) (hP.2.2.2.2.2.2.2.2 a ha).1 ?_
  refine fm_getI (k := 4) hc K_Tr d_Me_isLeaving_16 q_192 rfl (by omega) (by omega) (ly_Mt hM ha) (by decide) (by decide) rfl ?_
  refine fm_top (congrArg Value.int hh) ?_
  refine fm_iload_n hc d_Me_isLeaving_19 rfl rfl ?_
  refine fm_icmp_ne (tgt := 27) hc d_Me_isLeaving_20 rfl (fun g => absurd (congrArg nI h1) g) (fun _ => ?_)
  refine fm_iconst (v := nI 1) hc d_Me_isLeaving_23 rfl ?_
  refine fm_goto (tgt := 28) hc d_Me_isLeaving_24 rfl ?_
  exact fm_zret (ty := .boolean) hc hr (by first | rfl | decide) d_Me_isLeaving_28 (Nat.le_refl _) (Nat.le_refl _) ⟨rfl, rfl, rfl⟩
theorem c_leav2 {l : Launch} {b : Nat} {x : Nat → Nat} {D : va_G} {dA : Nat → ClassId} {mm a sl hp q : Nat} {n : Nat} {M : fm_M} (hn : 586 ≤ n) (hM : fm_isM mm) (hP : fm_MP M mm) (ha : a < 8) (hs : M.1 (mm + 1) a = nI sl) (hs4 : sl ≤ 4) (hh : M.1 (mm + (9 + 4 * a)) 4 = nI hp) (hp2 : hp < 1000) (hq : q < 1000) (h0 : sl = 2) (h1 : ¬ hp = q) : Met l y_Me_isLeaving (Cond.code y_Me_isLeaving b_Me_isLeaving 3 (some .boolean) :: fm_T0) ({ frames := 0, cells := 0, slots := 0, locals := 0 }) (fm_Pc fm_lay fm_nf fm_fk fm_cl b x D dA (fm_tys dA) (fm_EX b x) false [.ref mm, .int (nI a), .int (nI q)] n M) (fm_Qc fm_lay fm_nf fm_fk fm_cl b x D dA (fun r n' M' => r = some (.int (nI 0)) ∧ n' = n ∧ M' = M)) 0 0 (fm_A b) := by
  refine fm_enter (by decide) (Nat.le_of_ble_eq_true rfl) ?_
  intro p e s m args below meth c9 hc hr hnm hex htg
  have hlo := isM_lo hM
  refine fm_aload_n hc d_Me_isLeaving_0 rfl rfl ?_
  refine fm_getR (k := 0) (q := mm + 1) hc K_Me d_Me_isLeaving_1 q_305 rfl (by omega) (by omega) (ly_M0 hM) (by decide) (by decide) rfl hP.1 ?_
  refine fm_iload_n hc d_Me_isLeaving_4 rfl rfl ?_
  refine fm_iald (j := a) (len := 8) hc 0 d_Me_isLeaving_5 (by omega) (by omega) (ly_M hM (k := 1) (by omega)) rfl (by omega) (by decide) ?_
  refine fm_top (congrArg Value.int hs) ?_
  refine fm_iconst (v := nI 2) hc d_Me_isLeaving_6 rfl ?_
  refine fm_icmp_ne (tgt := 27) hc d_Me_isLeaving_7 rfl (fun g => absurd (congrArg nI h0) g) (fun _ => ?_)
  refine fm_aload_n hc d_Me_isLeaving_10 rfl rfl ?_
  refine fm_getR (k := 4) (q := mm + 5) hc K_Me d_Me_isLeaving_11 q_314 rfl (by omega) (by omega) (ly_M0 hM) (by decide) (by decide) rfl hP.2.2.2.2.1 ?_
  refine fm_iload_n hc d_Me_isLeaving_14 rfl rfl ?_
  refine fm_aald (q := mm + (9 + 4 * a)) (j := a) (len := 8) hc 7 d_Me_isLeaving_15 (by omega) (by omega) (ly_M hM (k := 5) (by omega)) (by decide) rfl (by omega) (by decide) (hP.2.2.2.2.2.2.2.2 a ha).1 ?_
  refine fm_getI (k := 4) hc K_Tr d_Me_isLeaving_16 q_192 rfl (by omega) (by omega) (ly_Mt hM ha) (by decide) (by decide) rfl ?_
  refine fm_top (congrArg Value.int hh) ?_
  refine fm_iload_n hc d_Me_isLeaving_19 rfl rfl ?_
  refine fm_icmp_ne (tgt := 27) hc d_Me_isLeaving_20 rfl (fun _ => ?_) (fun g => absurd g (fun e => h1 (nI_inj (by omega) (by omega) e)))
  refine fm_iconst (v := nI 0) hc d_Me_isLeaving_27 rfl ?_
  exact fm_zret (ty := .boolean) hc hr (by first | rfl | decide) d_Me_isLeaving_28 (Nat.le_refl _) (Nat.le_refl _) ⟨rfl, rfl, rfl⟩
