/-! THE PROCESSOR: boundsFit, push, pushPair, say, go, divide, doPlain, doPairs, case by case -/
theorem l64_lt (u v : Int32) : u.toInt64 < v.toInt64 ↔ u < v := by rw [Int64.lt_iff_toInt_lt, Int32.toInt_toInt64, Int32.toInt_toInt64, Int32.lt_iff_toInt_lt]
theorem l64_le (u v : Int32) : u.toInt64 ≤ v.toInt64 ↔ u ≤ v := by rw [Int64.le_iff_toInt_le, Int32.toInt_toInt64, Int32.toInt_toInt64, Int32.le_iff_toInt_le]
theorem l64_eq (u v : Int32) : u.toInt64 = v.toInt64 ↔ u = v := by
  constructor
  · intro h
    have h2 := congrArg Int64.toInt32 h
    rw [vx_low, vx_low] at h2
    exact h2
  · intro h
    rw [h]
theorem c_bnd_0 {l : Launch} {b : Nat} {x : Nat → Nat} {D : va_G} {dA : Nat → ClassId} {tr : Nat} {n : Nat} {M : fm_M} (hn : 586 ≤ n) (hcd : M.1 60 1 = nI 0) : Met l y_Pr_boundsFit (Cond.code y_Pr_boundsFit b_Pr_boundsFit 2 (some .boolean) :: fm_T0) ({ frames := 0, cells := 0, slots := 0, locals := 0 }) (fm_Pc fm_lay fm_nf fm_fk fm_cl b x D dA (fm_tys dA) (fm_EX b x) false [.ref 60, .ref tr] n M) (fm_Qc fm_lay fm_nf fm_fk fm_cl b x D dA (fun r n' M' => r = some (.int (nI 1)) ∧ n' = n ∧ M' = M)) 0 0 (fm_A b) := by
  refine fm_enter (by decide) (Nat.le_of_ble_eq_true rfl) ?_
  intro p e s m args below meth c9 hc hr hnm hex htg
  refine fm_aload_n hc d_Pr_boundsFit_0 rfl rfl ?_
  refine fm_getI (k := 1) hc K_Pr d_Pr_boundsFit_1 q_124 rfl (by decide) (by omega) (by decide) (by decide) (by decide) rfl ?_
  refine fm_top (congrArg Value.int hcd) ?_
  refine fm_tableOut (tgt := 174) hc d_Pr_boundsFit_4 (by decide) rfl ?_
  refine fm_iconst (v := nI 1) hc d_Pr_boundsFit_174 rfl ?_
  exact fm_zret (ty := .boolean) hc hr (by first | rfl | decide) d_Pr_boundsFit_175 (Nat.le_refl _) (Nat.le_refl _) ⟨rfl, rfl, rfl⟩
theorem c_bnd_1 {l : Launch} {b : Nat} {x : Nat → Nat} {D : va_G} {dA : Nat → ClassId} {tr : Nat} {n : Nat} {M : fm_M} (hn : 586 ≤ n) (hcd : M.1 60 1 = nI 1) : Met l y_Pr_boundsFit (Cond.code y_Pr_boundsFit b_Pr_boundsFit 2 (some .boolean) :: fm_T0) ({ frames := 0, cells := 0, slots := 0, locals := 0 }) (fm_Pc fm_lay fm_nf fm_fk fm_cl b x D dA (fm_tys dA) (fm_EX b x) false [.ref 60, .ref tr] n M) (fm_Qc fm_lay fm_nf fm_fk fm_cl b x D dA (fun r n' M' => r = some (.int (nI 1)) ∧ n' = n ∧ M' = M)) 0 0 (fm_A b) := by
  refine fm_enter (by decide) (Nat.le_of_ble_eq_true rfl) ?_
  intro p e s m args below meth c9 hc hr hnm hex htg
  refine fm_aload_n hc d_Pr_boundsFit_0 rfl rfl ?_
  refine fm_getI (k := 1) hc K_Pr d_Pr_boundsFit_1 q_124 rfl (by decide) (by omega) (by decide) (by decide) (by decide) rfl ?_
  refine fm_top (congrArg Value.int hcd) ?_
  refine fm_tableOut (tgt := 174) hc d_Pr_boundsFit_4 (by decide) rfl ?_
  refine fm_iconst (v := nI 1) hc d_Pr_boundsFit_174 rfl ?_
  exact fm_zret (ty := .boolean) hc hr (by first | rfl | decide) d_Pr_boundsFit_175 (Nat.le_refl _) (Nat.le_refl _) ⟨rfl, rfl, rfl⟩
theorem c_bnd_2 {l : Launch} {b : Nat} {x : Nat → Nat} {D : va_G} {dA : Nat → ClassId} {tr : Nat} {n : Nat} {M : fm_M} (hn : 586 ≤ n) (hcd : M.1 60 1 = nI 2) : Met l y_Pr_boundsFit (Cond.code y_Pr_boundsFit b_Pr_boundsFit 2 (some .boolean) :: fm_T0) ({ frames := 0, cells := 0, slots := 0, locals := 0 }) (fm_Pc fm_lay fm_nf fm_fk fm_cl b x D dA (fm_tys dA) (fm_EX b x) false [.ref 60, .ref tr] n M) (fm_Qc fm_lay fm_nf fm_fk fm_cl b x D dA (fun r n' M' => r = some (.int (nI 1)) ∧ n' = n ∧ M' = M)) 0 0 (fm_A b) := by
  refine fm_enter (by decide) (Nat.le_of_ble_eq_true rfl) ?_
  intro p e s m args below meth c9 hc hr hnm hex htg
  refine fm_aload_n hc d_Pr_boundsFit_0 rfl rfl ?_
  refine fm_getI (k := 1) hc K_Pr d_Pr_boundsFit_1 q_124 rfl (by decide) (by omega) (by decide) (by decide) (by decide) rfl ?_
  refine fm_top (congrArg Value.int hcd) ?_
  refine fm_tableOut (tgt := 174) hc d_Pr_boundsFit_4 (by decide) rfl ?_
  refine fm_iconst (v := nI 1) hc d_Pr_boundsFit_174 rfl ?_
  exact fm_zret (ty := .boolean) hc hr (by first | rfl | decide) d_Pr_boundsFit_175 (Nat.le_refl _) (Nat.le_refl _) ⟨rfl, rfl, rfl⟩
theorem c_bnd_3 {l : Launch} {b : Nat} {x : Nat → Nat} {D : va_G} {dA : Nat → ClassId} {tr : Nat} {n : Nat} {M : fm_M} (hn : 586 ≤ n) (hcd : M.1 60 1 = nI 3) : Met l y_Pr_boundsFit (Cond.code y_Pr_boundsFit b_Pr_boundsFit 2 (some .boolean) :: fm_T0) ({ frames := 0, cells := 0, slots := 0, locals := 0 }) (fm_Pc fm_lay fm_nf fm_fk fm_cl b x D dA (fm_tys dA) (fm_EX b x) false [.ref 60, .ref tr] n M) (fm_Qc fm_lay fm_nf fm_fk fm_cl b x D dA (fun r n' M' => r = some (.int (nI 1)) ∧ n' = n ∧ M' = M)) 0 0 (fm_A b) := by
  refine fm_enter (by decide) (Nat.le_of_ble_eq_true rfl) ?_
  intro p e s m args below meth c9 hc hr hnm hex htg
  refine fm_aload_n hc d_Pr_boundsFit_0 rfl rfl ?_
  refine fm_getI (k := 1) hc K_Pr d_Pr_boundsFit_1 q_124 rfl (by decide) (by omega) (by decide) (by decide) (by decide) rfl ?_
  refine fm_top (congrArg Value.int hcd) ?_
  refine fm_tableOut (tgt := 174) hc d_Pr_boundsFit_4 (by decide) rfl ?_
  refine fm_iconst (v := nI 1) hc d_Pr_boundsFit_174 rfl ?_
  exact fm_zret (ty := .boolean) hc hr (by first | rfl | decide) d_Pr_boundsFit_175 (Nat.le_refl _) (Nat.le_refl _) ⟨rfl, rfl, rfl⟩
theorem c_bnd_4 {l : Launch} {b : Nat} {x : Nat → Nat} {D : va_G} {dA : Nat → ClassId} {tr : Nat} {n : Nat} {M : fm_M} (hn : 586 ≤ n) (hcd : M.1 60 1 = nI 4) : Met l y_Pr_boundsFit (Cond.code y_Pr_boundsFit b_Pr_boundsFit 2 (some .boolean) :: fm_T0) ({ frames := 0, cells := 0, slots := 0, locals := 0 }) (fm_Pc fm_lay fm_nf fm_fk fm_cl b x D dA (fm_tys dA) (fm_EX b x) false [.ref 60, .ref tr] n M) (fm_Qc fm_lay fm_nf fm_fk fm_cl b x D dA (fun r n' M' => r = some (.int (nI 1)) ∧ n' = n ∧ M' = M)) 0 0 (fm_A b) := by
  refine fm_enter (by decide) (Nat.le_of_ble_eq_true rfl) ?_
  intro p e s m args below meth c9 hc hr hnm hex htg
  refine fm_aload_n hc d_Pr_boundsFit_0 rfl rfl ?_
  refine fm_getI (k := 1) hc K_Pr d_Pr_boundsFit_1 q_124 rfl (by decide) (by omega) (by decide) (by decide) (by decide) rfl ?_
  refine fm_top (congrArg Value.int hcd) ?_
  refine fm_tableOut (tgt := 174) hc d_Pr_boundsFit_4 (by decide) rfl ?_
  refine fm_iconst (v := nI 1) hc d_Pr_boundsFit_174 rfl ?_
  exact fm_zret (ty := .boolean) hc hr (by first | rfl | decide) d_Pr_boundsFit_175 (Nat.le_refl _) (Nat.le_refl _) ⟨rfl, rfl, rfl⟩
theorem c_bnd_6 {l : Launch} {b : Nat} {x : Nat → Nat} {D : va_G} {dA : Nat → ClassId} {tr : Nat} {n : Nat} {M : fm_M} (hn : 586 ≤ n) (hcd : M.1 60 1 = nI 6) : Met l y_Pr_boundsFit (Cond.code y_Pr_boundsFit b_Pr_boundsFit 2 (some .boolean) :: fm_T0) ({ frames := 0, cells := 0, slots := 0, locals := 0 }) (fm_Pc fm_lay fm_nf fm_fk fm_cl b x D dA (fm_tys dA) (fm_EX b x) false [.ref 60, .ref tr] n M) (fm_Qc fm_lay fm_nf fm_fk fm_cl b x D dA (fun r n' M' => r = some (.int (nI 1)) ∧ n' = n ∧ M' = M)) 0 0 (fm_A b) := by
  refine fm_enter (by decide) (Nat.le_of_ble_eq_true rfl) ?_
  intro p e s m args below meth c9 hc hr hnm hex htg
  refine fm_aload_n hc d_Pr_boundsFit_0 rfl rfl ?_
  refine fm_getI (k := 1) hc K_Pr d_Pr_boundsFit_1 q_124 rfl (by decide) (by omega) (by decide) (by decide) (by decide) rfl ?_
  refine fm_top (congrArg Value.int hcd) ?_
  refine fm_tableIn (off := 170) (tgt := 174) hc d_Pr_boundsFit_4 (by decide) (by decide) rfl rfl ?_
  refine fm_iconst (v := nI 1) hc d_Pr_boundsFit_174 rfl ?_
  exact fm_zret (ty := .boolean) hc hr (by first | rfl | decide) d_Pr_boundsFit_175 (Nat.le_refl _) (Nat.le_refl _) ⟨rfl, rfl, rfl⟩
theorem c_bnd_10 {l : Launch} {b : Nat} {x : Nat → Nat} {D : va_G} {dA : Nat → ClassId} {tr : Nat} {n : Nat} {M : fm_M} (hn : 586 ≤ n) (hcd : M.1 60 1 = nI 10) : Met l y_Pr_boundsFit (Cond.code y_Pr_boundsFit b_Pr_boundsFit 2 (some .boolean) :: fm_T0) ({ frames := 0, cells := 0, slots := 0, locals := 0 }) (fm_Pc fm_lay fm_nf fm_fk fm_cl b x D dA (fm_tys dA) (fm_EX b x) false [.ref 60, .ref tr] n M) (fm_Qc fm_lay fm_nf fm_fk fm_cl b x D dA (fun r n' M' => r = some (.int (nI 1)) ∧ n' = n ∧ M' = M)) 0 0 (fm_A b) := by
  refine fm_enter (by decide) (Nat.le_of_ble_eq_true rfl) ?_
  intro p e s m args below meth c9 hc hr hnm hex htg
  refine fm_aload_n hc d_Pr_boundsFit_0 rfl rfl ?_
  refine fm_getI (k := 1) hc K_Pr d_Pr_boundsFit_1 q_124 rfl (by decide) (by omega) (by decide) (by decide) (by decide) rfl ?_
  refine fm_top (congrArg Value.int hcd) ?_
  refine fm_tableIn (off := 170) (tgt := 174) hc d_Pr_boundsFit_4 (by decide) (by decide) rfl rfl ?_
  refine fm_iconst (v := nI 1) hc d_Pr_boundsFit_174 rfl ?_
  exact fm_zret (ty := .boolean) hc hr (by first | rfl | decide) d_Pr_boundsFit_175 (Nat.le_refl _) (Nat.le_refl _) ⟨rfl, rfl, rfl⟩
theorem c_bnd_11 {l : Launch} {b : Nat} {x : Nat → Nat} {D : va_G} {dA : Nat → ClassId} {tr : Nat} {n : Nat} {M : fm_M} (hn : 586 ≤ n) (hcd : M.1 60 1 = nI 11) : Met l y_Pr_boundsFit (Cond.code y_Pr_boundsFit b_Pr_boundsFit 2 (some .boolean) :: fm_T0) ({ frames := 0, cells := 0, slots := 0, locals := 0 }) (fm_Pc fm_lay fm_nf fm_fk fm_cl b x D dA (fm_tys dA) (fm_EX b x) false [.ref 60, .ref tr] n M) (fm_Qc fm_lay fm_nf fm_fk fm_cl b x D dA (fun r n' M' => r = some (.int (nI 1)) ∧ n' = n ∧ M' = M)) 0 0 (fm_A b) := by
  refine fm_enter (by decide) (Nat.le_of_ble_eq_true rfl) ?_
  intro p e s m args below meth c9 hc hr hnm hex htg
  refine fm_aload_n hc d_Pr_boundsFit_0 rfl rfl ?_
  refine fm_getI (k := 1) hc K_Pr d_Pr_boundsFit_1 q_124 rfl (by decide) (by omega) (by decide) (by decide) (by decide) rfl ?_
  refine fm_top (congrArg Value.int hcd) ?_
  refine fm_tableIn (off := 170) (tgt := 174) hc d_Pr_boundsFit_4 (by decide) (by decide) rfl rfl ?_
  refine fm_iconst (v := nI 1) hc d_Pr_boundsFit_174 rfl ?_
  exact fm_zret (ty := .boolean) hc hr (by first | rfl | decide) d_Pr_boundsFit_175 (Nat.le_refl _) (Nat.le_refl _) ⟨rfl, rfl, rfl⟩
theorem c_bnd_12 {l : Launch} {b : Nat} {x : Nat → Nat} {D : va_G} {dA : Nat → ClassId} {tr : Nat} {n : Nat} {M : fm_M} (hn : 586 ≤ n) (hcd : M.1 60 1 = nI 12) : Met l y_Pr_boundsFit (Cond.code y_Pr_boundsFit b_Pr_boundsFit 2 (some .boolean) :: fm_T0) ({ frames := 0, cells := 0, slots := 0, locals := 0 }) (fm_Pc fm_lay fm_nf fm_fk fm_cl b x D dA (fm_tys dA) (fm_EX b x) false [.ref 60, .ref tr] n M) (fm_Qc fm_lay fm_nf fm_fk fm_cl b x D dA (fun r n' M' => r = some (.int (nI 1)) ∧ n' = n ∧ M' = M)) 0 0 (fm_A b) := by
  refine fm_enter (by decide) (Nat.le_of_ble_eq_true rfl) ?_
  intro p e s m args below meth c9 hc hr hnm hex htg
  refine fm_aload_n hc d_Pr_boundsFit_0 rfl rfl ?_
  refine fm_getI (k := 1) hc K_Pr d_Pr_boundsFit_1 q_124 rfl (by decide) (by omega) (by decide) (by decide) (by decide) rfl ?_
  refine fm_top (congrArg Value.int hcd) ?_
  refine fm_tableIn (off := 170) (tgt := 174) hc d_Pr_boundsFit_4 (by decide) (by decide) rfl rfl ?_
  refine fm_iconst (v := nI 1) hc d_Pr_boundsFit_174 rfl ?_
  exact fm_zret (ty := .boolean) hc hr (by first | rfl | decide) d_Pr_boundsFit_175 (Nat.le_refl _) (Nat.le_refl _) ⟨rfl, rfl, rfl⟩
theorem c_bnd_15 {l : Launch} {b : Nat} {x : Nat → Nat} {D : va_G} {dA : Nat → ClassId} {tr : Nat} {n : Nat} {M : fm_M} (hn : 586 ≤ n) (hcd : M.1 60 1 = nI 15) : Met l y_Pr_boundsFit (Cond.code y_Pr_boundsFit b_Pr_boundsFit 2 (some .boolean) :: fm_T0) ({ frames := 0, cells := 0, slots := 0, locals := 0 }) (fm_Pc fm_lay fm_nf fm_fk fm_cl b x D dA (fm_tys dA) (fm_EX b x) false [.ref 60, .ref tr] n M) (fm_Qc fm_lay fm_nf fm_fk fm_cl b x D dA (fun r n' M' => r = some (.int (nI 1)) ∧ n' = n ∧ M' = M)) 0 0 (fm_A b) := by
  refine fm_enter (by decide) (Nat.le_of_ble_eq_true rfl) ?_
  intro p e s m args below meth c9 hc hr hnm hex htg
  refine fm_aload_n hc d_Pr_boundsFit_0 rfl rfl ?_
  refine fm_getI (k := 1) hc K_Pr d_Pr_boundsFit_1 q_124 rfl (by decide) (by omega) (by decide) (by decide) (by decide) rfl ?_
  refine fm_top (congrArg Value.int hcd) ?_
  refine fm_tableOut (tgt := 174) hc d_Pr_boundsFit_4 (by decide) rfl ?_
  refine fm_iconst (v := nI 1) hc d_Pr_boundsFit_174 rfl ?_
  exact fm_zret (ty := .boolean) hc hr (by first | rfl | decide) d_Pr_boundsFit_175 (Nat.le_refl _) (Nat.le_refl _) ⟨rfl, rfl, rfl⟩
theorem c_bnd_16 {l : Launch} {b : Nat} {x : Nat → Nat} {D : va_G} {dA : Nat → ClassId} {tr : Nat} {n : Nat} {M : fm_M} (hn : 586 ≤ n) (hcd : M.1 60 1 = nI 16) : Met l y_Pr_boundsFit (Cond.code y_Pr_boundsFit b_Pr_boundsFit 2 (some .boolean) :: fm_T0) ({ frames := 0, cells := 0, slots := 0, locals := 0 }) (fm_Pc fm_lay fm_nf fm_fk fm_cl b x D dA (fm_tys dA) (fm_EX b x) false [.ref 60, .ref tr] n M) (fm_Qc fm_lay fm_nf fm_fk fm_cl b x D dA (fun r n' M' => r = some (.int (nI 1)) ∧ n' = n ∧ M' = M)) 0 0 (fm_A b) := by
  refine fm_enter (by decide) (Nat.le_of_ble_eq_true rfl) ?_
  intro p e s m args below meth c9 hc hr hnm hex htg
  refine fm_aload_n hc d_Pr_boundsFit_0 rfl rfl ?_
  refine fm_getI (k := 1) hc K_Pr d_Pr_boundsFit_1 q_124 rfl (by decide) (by omega) (by decide) (by decide) (by decide) rfl ?_
  refine fm_top (congrArg Value.int hcd) ?_
  refine fm_tableOut (tgt := 174) hc d_Pr_boundsFit_4 (by decide) rfl ?_
  refine fm_iconst (v := nI 1) hc d_Pr_boundsFit_174 rfl ?_
  exact fm_zret (ty := .boolean) hc hr (by first | rfl | decide) d_Pr_boundsFit_175 (Nat.le_refl _) (Nat.le_refl _) ⟨rfl, rfl, rfl⟩
theorem c_bnd_17 {l : Launch} {b : Nat} {x : Nat → Nat} {D : va_G} {dA : Nat → ClassId} {tr : Nat} {n : Nat} {M : fm_M} (hn : 586 ≤ n) (hcd : M.1 60 1 = nI 17) : Met l y_Pr_boundsFit (Cond.code y_Pr_boundsFit b_Pr_boundsFit 2 (some .boolean) :: fm_T0) ({ frames := 0, cells := 0, slots := 0, locals := 0 }) (fm_Pc fm_lay fm_nf fm_fk fm_cl b x D dA (fm_tys dA) (fm_EX b x) false [.ref 60, .ref tr] n M) (fm_Qc fm_lay fm_nf fm_fk fm_cl b x D dA (fun r n' M' => r = some (.int (nI 1)) ∧ n' = n ∧ M' = M)) 0 0 (fm_A b) := by
  refine fm_enter (by decide) (Nat.le_of_ble_eq_true rfl) ?_
  intro p e s m args below meth c9 hc hr hnm hex htg
  refine fm_aload_n hc d_Pr_boundsFit_0 rfl rfl ?_
  refine fm_getI (k := 1) hc K_Pr d_Pr_boundsFit_1 q_124 rfl (by decide) (by omega) (by decide) (by decide) (by decide) rfl ?_
  refine fm_top (congrArg Value.int hcd) ?_
  refine fm_tableOut (tgt := 174) hc d_Pr_boundsFit_4 (by decide) rfl ?_
  refine fm_iconst (v := nI 1) hc d_Pr_boundsFit_174 rfl ?_
  exact fm_zret (ty := .boolean) hc hr (by first | rfl | decide) d_Pr_boundsFit_175 (Nat.le_refl _) (Nat.le_refl _) ⟨rfl, rfl, rfl⟩
theorem c_bnd_18 {l : Launch} {b : Nat} {x : Nat → Nat} {D : va_G} {dA : Nat → ClassId} {tr : Nat} {n : Nat} {M : fm_M} (hn : 586 ≤ n) (hcd : M.1 60 1 = nI 18) : Met l y_Pr_boundsFit (Cond.code y_Pr_boundsFit b_Pr_boundsFit 2 (some .boolean) :: fm_T0) ({ frames := 0, cells := 0, slots := 0, locals := 0 }) (fm_Pc fm_lay fm_nf fm_fk fm_cl b x D dA (fm_tys dA) (fm_EX b x) false [.ref 60, .ref tr] n M) (fm_Qc fm_lay fm_nf fm_fk fm_cl b x D dA (fun r n' M' => r = some (.int (nI 1)) ∧ n' = n ∧ M' = M)) 0 0 (fm_A b) := by
  refine fm_enter (by decide) (Nat.le_of_ble_eq_true rfl) ?_
  intro p e s m args below meth c9 hc hr hnm hex htg
  refine fm_aload_n hc d_Pr_boundsFit_0 rfl rfl ?_
  refine fm_getI (k := 1) hc K_Pr d_Pr_boundsFit_1 q_124 rfl (by decide) (by omega) (by decide) (by decide) (by decide) rfl ?_
  refine fm_top (congrArg Value.int hcd) ?_
  refine fm_tableOut (tgt := 174) hc d_Pr_boundsFit_4 (by decide) rfl ?_
  refine fm_iconst (v := nI 1) hc d_Pr_boundsFit_174 rfl ?_
  exact fm_zret (ty := .boolean) hc hr (by first | rfl | decide) d_Pr_boundsFit_175 (Nat.le_refl _) (Nat.le_refl _) ⟨rfl, rfl, rfl⟩
theorem c_bnd_19 {l : Launch} {b : Nat} {x : Nat → Nat} {D : va_G} {dA : Nat → ClassId} {tr : Nat} {n : Nat} {M : fm_M} (hn : 586 ≤ n) (hcd : M.1 60 1 = nI 19) : Met l y_Pr_boundsFit (Cond.code y_Pr_boundsFit b_Pr_boundsFit 2 (some .boolean) :: fm_T0) ({ frames := 0, cells := 0, slots := 0, locals := 0 }) (fm_Pc fm_lay fm_nf fm_fk fm_cl b x D dA (fm_tys dA) (fm_EX b x) false [.ref 60, .ref tr] n M) (fm_Qc fm_lay fm_nf fm_fk fm_cl b x D dA (fun r n' M' => r = some (.int (nI 1)) ∧ n' = n ∧ M' = M)) 0 0 (fm_A b) := by
  refine fm_enter (by decide) (Nat.le_of_ble_eq_true rfl) ?_
  intro p e s m args below meth c9 hc hr hnm hex htg
  refine fm_aload_n hc d_Pr_boundsFit_0 rfl rfl ?_
  refine fm_getI (k := 1) hc K_Pr d_Pr_boundsFit_1 q_124 rfl (by decide) (by omega) (by decide) (by decide) (by decide) rfl ?_
  refine fm_top (congrArg Value.int hcd) ?_
  refine fm_tableOut (tgt := 174) hc d_Pr_boundsFit_4 (by decide) rfl ?_
  refine fm_iconst (v := nI 1) hc d_Pr_boundsFit_174 rfl ?_
  exact fm_zret (ty := .boolean) hc hr (by first | rfl | decide) d_Pr_boundsFit_175 (Nat.le_refl _) (Nat.le_refl _) ⟨rfl, rfl, rfl⟩
theorem c_bnd_5 {l : Launch} {b : Nat} {x : Nat → Nat} {D : va_G} {dA : Nat → ClassId} {tr y d : Nat}  {n : Nat} {M : fm_M} (hn : 586 ≤ n) (t8 : 70 ≤ tr) (tn : tr < n) (t1n : tr + 1 < n) (t2n : tr + 2 < n) (t3n : tr + 3 < n) (tl : (fm_lay tr).1 = 5) (tl1 : fm_lay (tr + 1) = (110, 6)) (tl2 : fm_lay (tr + 2) = (110, 8)) (tl3 : fm_lay (tr + 3) = (110, 8)) (ht1 : M.2.2 tr 10 = some (tr + 1)) (ht2 : M.2.2 tr 11 = some (tr + 2)) (ht3 : M.2.2 tr 12 = some (tr + 3)) (hcd : M.1 60 1 = nI 5) (hy : M.1 60 2 = nI y) (hd : M.1 tr 8 = nI d) (hd6 : d ≤ 6) (hy2 : y < 256) (h1 : y < d) : Met l y_Pr_boundsFit (Cond.code y_Pr_boundsFit b_Pr_boundsFit 2 (some .boolean) :: fm_T0) ({ frames := 0, cells := 0, slots := 0, locals := 0 }) (fm_Pc fm_lay fm_nf fm_fk fm_cl b x D dA (fm_tys dA) (fm_EX b x) false [.ref 60, .ref tr] n M) (fm_Qc fm_lay fm_nf fm_fk fm_cl b x D dA (fun r n' M' => r = some (.int (nI 1)) ∧ n' = n ∧ M' = M)) 0 0 (fm_A b) := by
  refine fm_enter (by decide) (Nat.le_of_ble_eq_true rfl) ?_
  intro p e s m args below meth c9 hc hr hnm hex htg
  refine fm_aload_n hc d_Pr_boundsFit_0 rfl rfl ?_
  refine fm_getI (k := 1) hc K_Pr d_Pr_boundsFit_1 q_124 rfl (by decide) (by omega) (by decide) (by decide) (by decide) rfl ?_
  refine fm_top (congrArg Value.int hcd) ?_
  refine fm_tableIn (off := 56) (tgt := 60) hc d_Pr_boundsFit_4 (by decide) (by decide) rfl rfl ?_
  refine fm_aload_n hc d_Pr_boundsFit_60 rfl rfl ?_
  refine fm_getI (k := 2) hc K_Pr d_Pr_boundsFit_61 q_125 rfl (by decide) (by omega) (by decide) (by decide) (by decide) rfl ?_
  refine fm_top (congrArg Value.int hy) ?_
  refine fm_aload_n hc d_Pr_boundsFit_64 rfl rfl ?_
  refine fm_getI (k := 8) hc K_Tr d_Pr_boundsFit_65 q_210 rfl (by omega) tn tl (by decide) (by decide) rfl ?_
  refine fm_top (congrArg Value.int hd) ?_
  refine fm_icmp_ge (tgt := 75) hc d_Pr_boundsFit_68 rfl (fun g => absurd g (hnle (a := d) (c := y) h1 (by omega))) (fun _ => ?_)
  refine fm_iconst (v := nI 1) hc d_Pr_boundsFit_71 rfl ?_
  refine fm_goto (tgt := 76) hc d_Pr_boundsFit_72 rfl ?_
  exact fm_zret (ty := .boolean) hc hr (by first | rfl | decide) d_Pr_boundsFit_76 (Nat.le_refl _) (Nat.le_refl _) ⟨rfl, rfl, rfl⟩
theorem c_bnd_5n {l : Launch} {b : Nat} {x : Nat → Nat} {D : va_G} {dA : Nat → ClassId} {tr y d : Nat}  {n : Nat} {M : fm_M} (hn : 586 ≤ n) (t8 : 70 ≤ tr) (tn : tr < n) (t1n : tr + 1 < n) (t2n : tr + 2 < n) (t3n : tr + 3 < n) (tl : (fm_lay tr).1 = 5) (tl1 : fm_lay (tr + 1) = (110, 6)) (tl2 : fm_lay (tr + 2) = (110, 8)) (tl3 : fm_lay (tr + 3) = (110, 8)) (ht1 : M.2.2 tr 10 = some (tr + 1)) (ht2 : M.2.2 tr 11 = some (tr + 2)) (ht3 : M.2.2 tr 12 = some (tr + 3)) (hcd : M.1 60 1 = nI 5) (hy : M.1 60 2 = nI y) (hd : M.1 tr 8 = nI d) (hd6 : d ≤ 6) (hy2 : y < 256) (h1 : d ≤ y) : Met l y_Pr_boundsFit (Cond.code y_Pr_boundsFit b_Pr_boundsFit 2 (some .boolean) :: fm_T0) ({ frames := 0, cells := 0, slots := 0, locals := 0 }) (fm_Pc fm_lay fm_nf fm_fk fm_cl b x D dA (fm_tys dA) (fm_EX b x) false [.ref 60, .ref tr] n M) (fm_Qc fm_lay fm_nf fm_fk fm_cl b x D dA (fun r n' M' => r = some (.int (nI 0)) ∧ n' = n ∧ M' = M)) 0 0 (fm_A b) := by
  refine fm_enter (by decide) (Nat.le_of_ble_eq_true rfl) ?_
  intro p e s m args below meth c9 hc hr hnm hex htg
  refine fm_aload_n hc d_Pr_boundsFit_0 rfl rfl ?_
  refine fm_getI (k := 1) hc K_Pr d_Pr_boundsFit_1 q_124 rfl (by decide) (by omega) (by decide) (by decide) (by decide) rfl ?_
  refine fm_top (congrArg Value.int hcd) ?_
  refine fm_tableIn (off := 56) (tgt := 60) hc d_Pr_boundsFit_4 (by decide) (by decide) rfl rfl ?_
  refine fm_aload_n hc d_Pr_boundsFit_60 rfl rfl ?_
  refine fm_getI (k := 2) hc K_Pr d_Pr_boundsFit_61 q_125 rfl (by decide) (by omega) (by decide) (by decide) (by decide) rfl ?_
  refine fm_top (congrArg Value.int hy) ?_
  refine fm_aload_n hc d_Pr_boundsFit_64 rfl rfl ?_
  refine fm_getI (k := 8) hc K_Tr d_Pr_boundsFit_65 q_210 rfl (by omega) tn tl (by decide) (by decide) rfl ?_
  refine fm_top (congrArg Value.int hd) ?_
  refine fm_icmp_ge (tgt := 75) hc d_Pr_boundsFit_68 rfl (fun _ => ?_) (fun g => absurd (nI_le h1 (by omega)) g)
  refine fm_iconst (v := nI 0) hc d_Pr_boundsFit_75 rfl ?_
  exact fm_zret (ty := .boolean) hc hr (by first | rfl | decide) d_Pr_boundsFit_76 (Nat.le_refl _) (Nat.le_refl _) ⟨rfl, rfl, rfl⟩
theorem c_bnd_7 {l : Launch} {b : Nat} {x : Nat → Nat} {D : va_G} {dA : Nat → ClassId} {tr y : Nat}  {n : Nat} {M : fm_M} (hn : 586 ≤ n) (t8 : 70 ≤ tr) (tn : tr < n) (t1n : tr + 1 < n) (t2n : tr + 2 < n) (t3n : tr + 3 < n) (tl : (fm_lay tr).1 = 5) (tl1 : fm_lay (tr + 1) = (110, 6)) (tl2 : fm_lay (tr + 2) = (110, 8)) (tl3 : fm_lay (tr + 3) = (110, 8)) (ht1 : M.2.2 tr 10 = some (tr + 1)) (ht2 : M.2.2 tr 11 = some (tr + 2)) (ht3 : M.2.2 tr 12 = some (tr + 3)) (hcd : M.1 60 1 = nI 7) (hy : M.1 60 2 = nI y) (hy2 : y < 256) (h1 : y < 8) : Met l y_Pr_boundsFit (Cond.code y_Pr_boundsFit b_Pr_boundsFit 2 (some .boolean) :: fm_T0) ({ frames := 0, cells := 0, slots := 0, locals := 0 }) (fm_Pc fm_lay fm_nf fm_fk fm_cl b x D dA (fm_tys dA) (fm_EX b x) false [.ref 60, .ref tr] n M) (fm_Qc fm_lay fm_nf fm_fk fm_cl b x D dA (fun r n' M' => r = some (.int (nI 1)) ∧ n' = n ∧ M' = M)) 0 0 (fm_A b) := by
  refine fm_enter (by decide) (Nat.le_of_ble_eq_true rfl) ?_
  intro p e s m args below meth c9 hc hr hnm hex htg
  refine fm_aload_n hc d_Pr_boundsFit_0 rfl rfl ?_
  refine fm_getI (k := 1) hc K_Pr d_Pr_boundsFit_1 q_124 rfl (by decide) (by omega) (by decide) (by decide) (by decide) rfl ?_
  refine fm_top (congrArg Value.int hcd) ?_
  refine fm_tableIn (off := 73) (tgt := 77) hc d_Pr_boundsFit_4 (by decide) (by decide) rfl rfl ?_
  refine fm_aload_n hc d_Pr_boundsFit_77 rfl rfl ?_
  refine fm_getI (k := 2) hc K_Pr d_Pr_boundsFit_78 q_125 rfl (by decide) (by omega) (by decide) (by decide) (by decide) rfl ?_
  refine fm_top (congrArg Value.int hy) ?_
  refine fm_bipush (v := nI 8) hc d_Pr_boundsFit_81 rfl ?_
  refine fm_icmp_ge (tgt := 90) hc d_Pr_boundsFit_83 rfl (fun g => absurd g (hnle (a := 8) (c := y) h1 (by omega))) (fun _ => ?_)
  refine fm_iconst (v := nI 1) hc d_Pr_boundsFit_86 rfl ?_
  refine fm_goto (tgt := 91) hc d_Pr_boundsFit_87 rfl ?_
  exact fm_zret (ty := .boolean) hc hr (by first | rfl | decide) d_Pr_boundsFit_91 (Nat.le_refl _) (Nat.le_refl _) ⟨rfl, rfl, rfl⟩
theorem c_bnd_7n {l : Launch} {b : Nat} {x : Nat → Nat} {D : va_G} {dA : Nat → ClassId} {tr y : Nat}  {n : Nat} {M : fm_M} (hn : 586 ≤ n) (t8 : 70 ≤ tr) (tn : tr < n) (t1n : tr + 1 < n) (t2n : tr + 2 < n) (t3n : tr + 3 < n) (tl : (fm_lay tr).1 = 5) (tl1 : fm_lay (tr + 1) = (110, 6)) (tl2 : fm_lay (tr + 2) = (110, 8)) (tl3 : fm_lay (tr + 3) = (110, 8)) (ht1 : M.2.2 tr 10 = some (tr + 1)) (ht2 : M.2.2 tr 11 = some (tr + 2)) (ht3 : M.2.2 tr 12 = some (tr + 3)) (hcd : M.1 60 1 = nI 7) (hy : M.1 60 2 = nI y) (hy2 : y < 256) (h1 : 8 ≤ y) : Met l y_Pr_boundsFit (Cond.code y_Pr_boundsFit b_Pr_boundsFit 2 (some .boolean) :: fm_T0) ({ frames := 0, cells := 0, slots := 0, locals := 0 }) (fm_Pc fm_lay fm_nf fm_fk fm_cl b x D dA (fm_tys dA) (fm_EX b x) false [.ref 60, .ref tr] n M) (fm_Qc fm_lay fm_nf fm_fk fm_cl b x D dA (fun r n' M' => r = some (.int (nI 0)) ∧ n' = n ∧ M' = M)) 0 0 (fm_A b) := by
  refine fm_enter (by decide) (Nat.le_of_ble_eq_true rfl) ?_
  intro p e s m args below meth c9 hc hr hnm hex htg
  refine fm_aload_n hc d_Pr_boundsFit_0 rfl rfl ?_
  refine fm_getI (k := 1) hc K_Pr d_Pr_boundsFit_1 q_124 rfl (by decide) (by omega) (by decide) (by decide) (by decide) rfl ?_
  refine fm_top (congrArg Value.int hcd) ?_
  refine fm_tableIn (off := 73) (tgt := 77) hc d_Pr_boundsFit_4 (by decide) (by decide) rfl rfl ?_
  refine fm_aload_n hc d_Pr_boundsFit_77 rfl rfl ?_
  refine fm_getI (k := 2) hc K_Pr d_Pr_boundsFit_78 q_125 rfl (by decide) (by omega) (by decide) (by decide) (by decide) rfl ?_
  refine fm_top (congrArg Value.int hy) ?_
  refine fm_bipush (v := nI 8) hc d_Pr_boundsFit_81 rfl ?_
  refine fm_icmp_ge (tgt := 90) hc d_Pr_boundsFit_83 rfl (fun _ => ?_) (fun g => absurd (nI_le h1 (by omega)) g)
  refine fm_iconst (v := nI 0) hc d_Pr_boundsFit_90 rfl ?_
  exact fm_zret (ty := .boolean) hc hr (by first | rfl | decide) d_Pr_boundsFit_91 (Nat.le_refl _) (Nat.le_refl _) ⟨rfl, rfl, rfl⟩
theorem c_bnd_8 {l : Launch} {b : Nat} {x : Nat → Nat} {D : va_G} {dA : Nat → ClassId} {tr sd : Nat}  {n : Nat} {M : fm_M} (hn : 586 ≤ n) (t8 : 70 ≤ tr) (tn : tr < n) (t1n : tr + 1 < n) (t2n : tr + 2 < n) (t3n : tr + 3 < n) (tl : (fm_lay tr).1 = 5) (tl1 : fm_lay (tr + 1) = (110, 6)) (tl2 : fm_lay (tr + 2) = (110, 8)) (tl3 : fm_lay (tr + 3) = (110, 8)) (ht1 : M.2.2 tr 10 = some (tr + 1)) (ht2 : M.2.2 tr 11 = some (tr + 2)) (ht3 : M.2.2 tr 12 = some (tr + 3)) (hcd : M.1 60 1 = nI 8) (hs : M.1 tr 5 = nI sd) (hs2 : sd < 1000) (h1 : sd < 16) : Met l y_Pr_boundsFit (Cond.code y_Pr_boundsFit b_Pr_boundsFit 2 (some .boolean) :: fm_T0) ({ frames := 0, cells := 0, slots := 0, locals := 0 }) (fm_Pc fm_lay fm_nf fm_fk fm_cl b x D dA (fm_tys dA) (fm_EX b x) false [.ref 60, .ref tr] n M) (fm_Qc fm_lay fm_nf fm_fk fm_cl b x D dA (fun r n' M' => r = some (.int (nI 1)) ∧ n' = n ∧ M' = M)) 0 0 (fm_A b) := by
  refine fm_enter (by decide) (Nat.le_of_ble_eq_true rfl) ?_
  intro p e s m args below meth c9 hc hr hnm hex htg
  refine fm_aload_n hc d_Pr_boundsFit_0 rfl rfl ?_
  refine fm_getI (k := 1) hc K_Pr d_Pr_boundsFit_1 q_124 rfl (by decide) (by omega) (by decide) (by decide) (by decide) rfl ?_
  refine fm_top (congrArg Value.int hcd) ?_
  refine fm_tableIn (off := 88) (tgt := 92) hc d_Pr_boundsFit_4 (by decide) (by decide) rfl rfl ?_
  refine fm_aload_n hc d_Pr_boundsFit_92 rfl rfl ?_
  refine fm_getI (k := 5) hc K_Tr d_Pr_boundsFit_93 q_198 rfl (by omega) tn tl (by decide) (by decide) rfl ?_
  refine fm_top (congrArg Value.int hs) ?_
  refine fm_bipush (v := nI 16) hc d_Pr_boundsFit_96 rfl ?_
  refine fm_icmp_ge (tgt := 105) hc d_Pr_boundsFit_98 rfl (fun g => absurd g (hnle (a := 16) (c := sd) h1 (by omega))) (fun _ => ?_)
  refine fm_iconst (v := nI 1) hc d_Pr_boundsFit_101 rfl ?_
  refine fm_goto (tgt := 106) hc d_Pr_boundsFit_102 rfl ?_
  exact fm_zret (ty := .boolean) hc hr (by first | rfl | decide) d_Pr_boundsFit_106 (Nat.le_refl _) (Nat.le_refl _) ⟨rfl, rfl, rfl⟩
theorem c_bnd_8n {l : Launch} {b : Nat} {x : Nat → Nat} {D : va_G} {dA : Nat → ClassId} {tr sd : Nat}  {n : Nat} {M : fm_M} (hn : 586 ≤ n) (t8 : 70 ≤ tr) (tn : tr < n) (t1n : tr + 1 < n) (t2n : tr + 2 < n) (t3n : tr + 3 < n) (tl : (fm_lay tr).1 = 5) (tl1 : fm_lay (tr + 1) = (110, 6)) (tl2 : fm_lay (tr + 2) = (110, 8)) (tl3 : fm_lay (tr + 3) = (110, 8)) (ht1 : M.2.2 tr 10 = some (tr + 1)) (ht2 : M.2.2 tr 11 = some (tr + 2)) (ht3 : M.2.2 tr 12 = some (tr + 3)) (hcd : M.1 60 1 = nI 8) (hs : M.1 tr 5 = nI sd) (hs2 : sd < 1000) (h1 : 16 ≤ sd) : Met l y_Pr_boundsFit (Cond.code y_Pr_boundsFit b_Pr_boundsFit 2 (some .boolean) :: fm_T0) ({ frames := 0, cells := 0, slots := 0, locals := 0 }) (fm_Pc fm_lay fm_nf fm_fk fm_cl b x D dA (fm_tys dA) (fm_EX b x) false [.ref 60, .ref tr] n M) (fm_Qc fm_lay fm_nf fm_fk fm_cl b x D dA (fun r n' M' => r = some (.int (nI 0)) ∧ n' = n ∧ M' = M)) 0 0 (fm_A b) := by
  refine fm_enter (by decide) (Nat.le_of_ble_eq_true rfl) ?_
  intro p e s m args below meth c9 hc hr hnm hex htg
  refine fm_aload_n hc d_Pr_boundsFit_0 rfl rfl ?_
  refine fm_getI (k := 1) hc K_Pr d_Pr_boundsFit_1 q_124 rfl (by decide) (by omega) (by decide) (by decide) (by decide) rfl ?_
  refine fm_top (congrArg Value.int hcd) ?_
  refine fm_tableIn (off := 88) (tgt := 92) hc d_Pr_boundsFit_4 (by decide) (by decide) rfl rfl ?_
  refine fm_aload_n hc d_Pr_boundsFit_92 rfl rfl ?_
  refine fm_getI (k := 5) hc K_Tr d_Pr_boundsFit_93 q_198 rfl (by omega) tn tl (by decide) (by decide) rfl ?_
  refine fm_top (congrArg Value.int hs) ?_
  refine fm_bipush (v := nI 16) hc d_Pr_boundsFit_96 rfl ?_
  refine fm_icmp_ge (tgt := 105) hc d_Pr_boundsFit_98 rfl (fun _ => ?_) (fun g => absurd (nI_le h1 (by omega)) g)
  refine fm_iconst (v := nI 0) hc d_Pr_boundsFit_105 rfl ?_
  exact fm_zret (ty := .boolean) hc hr (by first | rfl | decide) d_Pr_boundsFit_106 (Nat.le_refl _) (Nat.le_refl _) ⟨rfl, rfl, rfl⟩
theorem c_bnd_9 {l : Launch} {b : Nat} {x : Nat → Nat} {D : va_G} {dA : Nat → ClassId} {tr : Nat} {v : Int32} {n : Nat} {M : fm_M} (hn : 586 ≤ n) (t8 : 70 ≤ tr) (tn : tr < n) (t1n : tr + 1 < n) (t2n : tr + 2 < n) (t3n : tr + 3 < n) (tl : (fm_lay tr).1 = 5) (tl1 : fm_lay (tr + 1) = (110, 6)) (tl2 : fm_lay (tr + 2) = (110, 8)) (tl3 : fm_lay (tr + 3) = (110, 8)) (ht1 : M.2.2 tr 10 = some (tr + 1)) (ht2 : M.2.2 tr 11 = some (tr + 2)) (ht3 : M.2.2 tr 12 = some (tr + 3)) (hcd : M.1 60 1 = nI 9) (hu : M.2.1 60 4 = v.toInt64) (h1 : ¬ v < 0) (h2 : v < 4) : Met l y_Pr_boundsFit (Cond.code y_Pr_boundsFit b_Pr_boundsFit 2 (some .boolean) :: fm_T0) ({ frames := 0, cells := 0, slots := 0, locals := 0 }) (fm_Pc fm_lay fm_nf fm_fk fm_cl b x D dA (fm_tys dA) (fm_EX b x) false [.ref 60, .ref tr] n M) (fm_Qc fm_lay fm_nf fm_fk fm_cl b x D dA (fun r n' M' => r = some (.int (nI 1)) ∧ n' = n ∧ M' = M)) 0 0 (fm_A b) := by
  refine fm_enter (by decide) (Nat.le_of_ble_eq_true rfl) ?_
  intro p e s m args below meth c9 hc hr hnm hex htg
  refine fm_aload_n hc d_Pr_boundsFit_0 rfl rfl ?_
  refine fm_getI (k := 1) hc K_Pr d_Pr_boundsFit_1 q_124 rfl (by decide) (by omega) (by decide) (by decide) (by decide) rfl ?_
  refine fm_top (congrArg Value.int hcd) ?_
  refine fm_tableIn (off := 103) (tgt := 107) hc d_Pr_boundsFit_4 (by decide) (by decide) rfl rfl ?_
  refine fm_aload_n hc d_Pr_boundsFit_107 rfl rfl ?_
  refine fm_getL (k := 4) hc K_Pr d_Pr_boundsFit_108 q_127 rfl (by decide) (by omega) (by decide) (by decide) (by decide) rfl ?_
  refine fm_top (congrArg Value.long hu) ?_
  refine fm_lconst (v := 0) hc d_Pr_boundsFit_111 rfl ?_
  refine fm_lcmp hc d_Pr_boundsFit_112 ?_
  refine fm_if_lt (tgt := 131) hc d_Pr_boundsFit_113 rfl (fun g => absurd g (fun g => absurd ((l64_lt v 0).mp ((lg_cmp_lt _ _).mp g)) h1)) (fun _ => ?_)
  refine fm_aload_n hc d_Pr_boundsFit_116 rfl rfl ?_
  refine fm_getL (k := 4) hc K_Pr d_Pr_boundsFit_117 q_127 rfl (by decide) (by omega) (by decide) (by decide) (by decide) rfl ?_
  refine fm_top (congrArg Value.long hu) ?_
  refine fm_ldc2 (v := 4) hc d_Pr_boundsFit_120 q_625 ?_
  refine fm_lcmp hc d_Pr_boundsFit_123 ?_
  refine fm_if_ge (tgt := 131) hc d_Pr_boundsFit_124 rfl (fun g => absurd g (fun g => absurd ((l64_le 4 v).mp ((lg_cmp_ge _ _).mp g)) (Int32.not_le.mpr h2))) (fun _ => ?_)
  refine fm_iconst (v := nI 1) hc d_Pr_boundsFit_127 rfl ?_
  refine fm_goto (tgt := 132) hc d_Pr_boundsFit_128 rfl ?_
  exact fm_zret (ty := .boolean) hc hr (by first | rfl | decide) d_Pr_boundsFit_132 (Nat.le_refl _) (Nat.le_refl _) ⟨rfl, rfl, rfl⟩
theorem c_bnd_9n {l : Launch} {b : Nat} {x : Nat → Nat} {D : va_G} {dA : Nat → ClassId} {tr : Nat} {v : Int32} {n : Nat} {M : fm_M} (hn : 586 ≤ n) (t8 : 70 ≤ tr) (tn : tr < n) (t1n : tr + 1 < n) (t2n : tr + 2 < n) (t3n : tr + 3 < n) (tl : (fm_lay tr).1 = 5) (tl1 : fm_lay (tr + 1) = (110, 6)) (tl2 : fm_lay (tr + 2) = (110, 8)) (tl3 : fm_lay (tr + 3) = (110, 8)) (ht1 : M.2.2 tr 10 = some (tr + 1)) (ht2 : M.2.2 tr 11 = some (tr + 2)) (ht3 : M.2.2 tr 12 = some (tr + 3)) (hcd : M.1 60 1 = nI 9) (hu : M.2.1 60 4 = v.toInt64) (h1 : v < 0) : Met l y_Pr_boundsFit (Cond.code y_Pr_boundsFit b_Pr_boundsFit 2 (some .boolean) :: fm_T0) ({ frames := 0, cells := 0, slots := 0, locals := 0 }) (fm_Pc fm_lay fm_nf fm_fk fm_cl b x D dA (fm_tys dA) (fm_EX b x) false [.ref 60, .ref tr] n M) (fm_Qc fm_lay fm_nf fm_fk fm_cl b x D dA (fun r n' M' => r = some (.int (nI 0)) ∧ n' = n ∧ M' = M)) 0 0 (fm_A b) := by
  refine fm_enter (by decide) (Nat.le_of_ble_eq_true rfl) ?_
  intro p e s m args below meth c9 hc hr hnm hex htg
  refine fm_aload_n hc d_Pr_boundsFit_0 rfl rfl ?_
  refine fm_getI (k := 1) hc K_Pr d_Pr_boundsFit_1 q_124 rfl (by decide) (by omega) (by decide) (by decide) (by decide) rfl ?_
  refine fm_top (congrArg Value.int hcd) ?_
  refine fm_tableIn (off := 103) (tgt := 107) hc d_Pr_boundsFit_4 (by decide) (by decide) rfl rfl ?_
  refine fm_aload_n hc d_Pr_boundsFit_107 rfl rfl ?_
  refine fm_getL (k := 4) hc K_Pr d_Pr_boundsFit_108 q_127 rfl (by decide) (by omega) (by decide) (by decide) (by decide) rfl ?_
  refine fm_top (congrArg Value.long hu) ?_
  refine fm_lconst (v := 0) hc d_Pr_boundsFit_111 rfl ?_
  refine fm_lcmp hc d_Pr_boundsFit_112 ?_
  refine fm_if_lt (tgt := 131) hc d_Pr_boundsFit_113 rfl (fun _ => ?_) (fun g => absurd ((lg_cmp_lt _ _).mpr ((l64_lt v 0).mpr h1)) g)
  refine fm_iconst (v := nI 0) hc d_Pr_boundsFit_131 rfl ?_
  exact fm_zret (ty := .boolean) hc hr (by first | rfl | decide) d_Pr_boundsFit_132 (Nat.le_refl _) (Nat.le_refl _) ⟨rfl, rfl, rfl⟩
theorem c_bnd_9m {l : Launch} {b : Nat} {x : Nat → Nat} {D : va_G} {dA : Nat → ClassId} {tr : Nat} {v : Int32} {n : Nat} {M : fm_M} (hn : 586 ≤ n) (t8 : 70 ≤ tr) (tn : tr < n) (t1n : tr + 1 < n) (t2n : tr + 2 < n) (t3n : tr + 3 < n) (tl : (fm_lay tr).1 = 5) (tl1 : fm_lay (tr + 1) = (110, 6)) (tl2 : fm_lay (tr + 2) = (110, 8)) (tl3 : fm_lay (tr + 3) = (110, 8)) (ht1 : M.2.2 tr 10 = some (tr + 1)) (ht2 : M.2.2 tr 11 = some (tr + 2)) (ht3 : M.2.2 tr 12 = some (tr + 3)) (hcd : M.1 60 1 = nI 9) (hu : M.2.1 60 4 = v.toInt64) (h1 : ¬ v < 0) (h2 : ¬ v < 4) : Met l y_Pr_boundsFit (Cond.code y_Pr_boundsFit b_Pr_boundsFit 2 (some .boolean) :: fm_T0) ({ frames := 0, cells := 0, slots := 0, locals := 0 }) (fm_Pc fm_lay fm_nf fm_fk fm_cl b x D dA (fm_tys dA) (fm_EX b x) false [.ref 60, .ref tr] n M) (fm_Qc fm_lay fm_nf fm_fk fm_cl b x D dA (fun r n' M' => r = some (.int (nI 0)) ∧ n' = n ∧ M' = M)) 0 0 (fm_A b) := by
  refine fm_enter (by decide) (Nat.le_of_ble_eq_true rfl) ?_
  intro p e s m args below meth c9 hc hr hnm hex htg
  refine fm_aload_n hc d_Pr_boundsFit_0 rfl rfl ?_
  refine fm_getI (k := 1) hc K_Pr d_Pr_boundsFit_1 q_124 rfl (by decide) (by omega) (by decide) (by decide) (by decide) rfl ?_
  refine fm_top (congrArg Value.int hcd) ?_
  refine fm_tableIn (off := 103) (tgt := 107) hc d_Pr_boundsFit_4 (by decide) (by decide) rfl rfl ?_
  refine fm_aload_n hc d_Pr_boundsFit_107 rfl rfl ?_
  refine fm_getL (k := 4) hc K_Pr d_Pr_boundsFit_108 q_127 rfl (by decide) (by omega) (by decide) (by decide) (by decide) rfl ?_
  refine fm_top (congrArg Value.long hu) ?_
  refine fm_lconst (v := 0) hc d_Pr_boundsFit_111 rfl ?_
  refine fm_lcmp hc d_Pr_boundsFit_112 ?_
  refine fm_if_lt (tgt := 131) hc d_Pr_boundsFit_113 rfl (fun g => absurd g (fun g => absurd ((l64_lt v 0).mp ((lg_cmp_lt _ _).mp g)) h1)) (fun _ => ?_)
  refine fm_aload_n hc d_Pr_boundsFit_116 rfl rfl ?_
  refine fm_getL (k := 4) hc K_Pr d_Pr_boundsFit_117 q_127 rfl (by decide) (by omega) (by decide) (by decide) (by decide) rfl ?_
  refine fm_top (congrArg Value.long hu) ?_
  refine fm_ldc2 (v := 4) hc d_Pr_boundsFit_120 q_625 ?_
  refine fm_lcmp hc d_Pr_boundsFit_123 ?_
  refine fm_if_ge (tgt := 131) hc d_Pr_boundsFit_124 rfl (fun _ => ?_) (fun g => absurd ((lg_cmp_ge _ _).mpr ((l64_le 4 v).mpr (Int32.not_lt.mp h2))) g)
  refine fm_iconst (v := nI 0) hc d_Pr_boundsFit_131 rfl ?_
  exact fm_zret (ty := .boolean) hc hr (by first | rfl | decide) d_Pr_boundsFit_132 (Nat.le_refl _) (Nat.le_refl _) ⟨rfl, rfl, rfl⟩
theorem c_bnd_13 {l : Launch} {b : Nat} {x : Nat → Nat} {D : va_G} {dA : Nat → ClassId} {tr : Nat} {v : Int32} {n : Nat} {M : fm_M} (hn : 586 ≤ n) (t8 : 70 ≤ tr) (tn : tr < n) (t1n : tr + 1 < n) (t2n : tr + 2 < n) (t3n : tr + 3 < n) (tl : (fm_lay tr).1 = 5) (tl1 : fm_lay (tr + 1) = (110, 6)) (tl2 : fm_lay (tr + 2) = (110, 8)) (tl3 : fm_lay (tr + 3) = (110, 8)) (ht1 : M.2.2 tr 10 = some (tr + 1)) (ht2 : M.2.2 tr 11 = some (tr + 2)) (ht3 : M.2.2 tr 12 = some (tr + 3)) (hcd : M.1 60 1 = nI 13) (hu : M.2.1 60 4 = v.toInt64) (h1 : ¬ v < 0) (h2 : v ≤ 20) : Met l y_Pr_boundsFit (Cond.code y_Pr_boundsFit b_Pr_boundsFit 2 (some .boolean) :: fm_T0) ({ frames := 0, cells := 0, slots := 0, locals := 0 }) (fm_Pc fm_lay fm_nf fm_fk fm_cl b x D dA (fm_tys dA) (fm_EX b x) false [.ref 60, .ref tr] n M) (fm_Qc fm_lay fm_nf fm_fk fm_cl b x D dA (fun r n' M' => r = some (.int (nI 1)) ∧ n' = n ∧ M' = M)) 0 0 (fm_A b) := by
  refine fm_enter (by decide) (Nat.le_of_ble_eq_true rfl) ?_
  intro p e s m args below meth c9 hc hr hnm hex htg
  refine fm_aload_n hc d_Pr_boundsFit_0 rfl rfl ?_
  refine fm_getI (k := 1) hc K_Pr d_Pr_boundsFit_1 q_124 rfl (by decide) (by omega) (by decide) (by decide) (by decide) rfl ?_
  refine fm_top (congrArg Value.int hcd) ?_
  refine fm_tableIn (off := 129) (tgt := 133) hc d_Pr_boundsFit_4 (by decide) (by decide) rfl rfl ?_
  refine fm_aload_n hc d_Pr_boundsFit_133 rfl rfl ?_
  refine fm_getL (k := 4) hc K_Pr d_Pr_boundsFit_134 q_127 rfl (by decide) (by omega) (by decide) (by decide) (by decide) rfl ?_
  refine fm_top (congrArg Value.long hu) ?_
  refine fm_lconst (v := 0) hc d_Pr_boundsFit_137 rfl ?_
  refine fm_lcmp hc d_Pr_boundsFit_138 ?_
  refine fm_if_lt (tgt := 157) hc d_Pr_boundsFit_139 rfl (fun g => absurd g (fun g => absurd ((l64_lt v 0).mp ((lg_cmp_lt _ _).mp g)) h1)) (fun _ => ?_)
  refine fm_aload_n hc d_Pr_boundsFit_142 rfl rfl ?_
  refine fm_getL (k := 4) hc K_Pr d_Pr_boundsFit_143 q_127 rfl (by decide) (by omega) (by decide) (by decide) (by decide) rfl ?_
  refine fm_top (congrArg Value.long hu) ?_
  refine fm_ldc2 (v := 20) hc d_Pr_boundsFit_146 q_626 ?_
  refine fm_lcmp hc d_Pr_boundsFit_149 ?_
  refine fm_if_gt (tgt := 157) hc d_Pr_boundsFit_150 rfl (fun g => absurd g (fun g => absurd ((l64_lt 20 v).mp ((lg_cmp_gt _ _).mp g)) (Int32.not_lt.mpr h2))) (fun _ => ?_)
  refine fm_iconst (v := nI 1) hc d_Pr_boundsFit_153 rfl ?_
  refine fm_goto (tgt := 158) hc d_Pr_boundsFit_154 rfl ?_
  exact fm_zret (ty := .boolean) hc hr (by first | rfl | decide) d_Pr_boundsFit_158 (Nat.le_refl _) (Nat.le_refl _) ⟨rfl, rfl, rfl⟩
theorem c_bnd_13n {l : Launch} {b : Nat} {x : Nat → Nat} {D : va_G} {dA : Nat → ClassId} {tr : Nat} {v : Int32} {n : Nat} {M : fm_M} (hn : 586 ≤ n) (t8 : 70 ≤ tr) (tn : tr < n) (t1n : tr + 1 < n) (t2n : tr + 2 < n) (t3n : tr + 3 < n) (tl : (fm_lay tr).1 = 5) (tl1 : fm_lay (tr + 1) = (110, 6)) (tl2 : fm_lay (tr + 2) = (110, 8)) (tl3 : fm_lay (tr + 3) = (110, 8)) (ht1 : M.2.2 tr 10 = some (tr + 1)) (ht2 : M.2.2 tr 11 = some (tr + 2)) (ht3 : M.2.2 tr 12 = some (tr + 3)) (hcd : M.1 60 1 = nI 13) (hu : M.2.1 60 4 = v.toInt64) (h1 : v < 0) : Met l y_Pr_boundsFit (Cond.code y_Pr_boundsFit b_Pr_boundsFit 2 (some .boolean) :: fm_T0) ({ frames := 0, cells := 0, slots := 0, locals := 0 }) (fm_Pc fm_lay fm_nf fm_fk fm_cl b x D dA (fm_tys dA) (fm_EX b x) false [.ref 60, .ref tr] n M) (fm_Qc fm_lay fm_nf fm_fk fm_cl b x D dA (fun r n' M' => r = some (.int (nI 0)) ∧ n' = n ∧ M' = M)) 0 0 (fm_A b) := by
  refine fm_enter (by decide) (Nat.le_of_ble_eq_true rfl) ?_
  intro p e s m args below meth c9 hc hr hnm hex htg
  refine fm_aload_n hc d_Pr_boundsFit_0 rfl rfl ?_
  refine fm_getI (k := 1) hc K_Pr d_Pr_boundsFit_1 q_124 rfl (by decide) (by omega) (by decide) (by decide) (by decide) rfl ?_
  refine fm_top (congrArg Value.int hcd) ?_
  refine fm_tableIn (off := 129) (tgt := 133) hc d_Pr_boundsFit_4 (by decide) (by decide) rfl rfl ?_
  refine fm_aload_n hc d_Pr_boundsFit_133 rfl rfl ?_
  refine fm_getL (k := 4) hc K_Pr d_Pr_boundsFit_134 q_127 rfl (by decide) (by omega) (by decide) (by decide) (by decide) rfl ?_
  refine fm_top (congrArg Value.long hu) ?_
  refine fm_lconst (v := 0) hc d_Pr_boundsFit_137 rfl ?_
  refine fm_lcmp hc d_Pr_boundsFit_138 ?_
  refine fm_if_lt (tgt := 157) hc d_Pr_boundsFit_139 rfl (fun _ => ?_) (fun g => absurd ((lg_cmp_lt _ _).mpr ((l64_lt v 0).mpr h1)) g)
  refine fm_iconst (v := nI 0) hc d_Pr_boundsFit_157 rfl ?_
  exact fm_zret (ty := .boolean) hc hr (by first | rfl | decide) d_Pr_boundsFit_158 (Nat.le_refl _) (Nat.le_refl _) ⟨rfl, rfl, rfl⟩
theorem c_bnd_13m {l : Launch} {b : Nat} {x : Nat → Nat} {D : va_G} {dA : Nat → ClassId} {tr : Nat} {v : Int32} {n : Nat} {M : fm_M} (hn : 586 ≤ n) (t8 : 70 ≤ tr) (tn : tr < n) (t1n : tr + 1 < n) (t2n : tr + 2 < n) (t3n : tr + 3 < n) (tl : (fm_lay tr).1 = 5) (tl1 : fm_lay (tr + 1) = (110, 6)) (tl2 : fm_lay (tr + 2) = (110, 8)) (tl3 : fm_lay (tr + 3) = (110, 8)) (ht1 : M.2.2 tr 10 = some (tr + 1)) (ht2 : M.2.2 tr 11 = some (tr + 2)) (ht3 : M.2.2 tr 12 = some (tr + 3)) (hcd : M.1 60 1 = nI 13) (hu : M.2.1 60 4 = v.toInt64) (h1 : ¬ v < 0) (h2 : ¬ v ≤ 20) : Met l y_Pr_boundsFit (Cond.code y_Pr_boundsFit b_Pr_boundsFit 2 (some .boolean) :: fm_T0) ({ frames := 0, cells := 0, slots := 0, locals := 0 }) (fm_Pc fm_lay fm_nf fm_fk fm_cl b x D dA (fm_tys dA) (fm_EX b x) false [.ref 60, .ref tr] n M) (fm_Qc fm_lay fm_nf fm_fk fm_cl b x D dA (fun r n' M' => r = some (.int (nI 0)) ∧ n' = n ∧ M' = M)) 0 0 (fm_A b) := by
  refine fm_enter (by decide) (Nat.le_of_ble_eq_true rfl) ?_
  intro p e s m args below meth c9 hc hr hnm hex htg
  refine fm_aload_n hc d_Pr_boundsFit_0 rfl rfl ?_
  refine fm_getI (k := 1) hc K_Pr d_Pr_boundsFit_1 q_124 rfl (by decide) (by omega) (by decide) (by decide) (by decide) rfl ?_
  refine fm_top (congrArg Value.int hcd) ?_
  refine fm_tableIn (off := 129) (tgt := 133) hc d_Pr_boundsFit_4 (by decide) (by decide) rfl rfl ?_
  refine fm_aload_n hc d_Pr_boundsFit_133 rfl rfl ?_
  refine fm_getL (k := 4) hc K_Pr d_Pr_boundsFit_134 q_127 rfl (by decide) (by omega) (by decide) (by decide) (by decide) rfl ?_
  refine fm_top (congrArg Value.long hu) ?_
  refine fm_lconst (v := 0) hc d_Pr_boundsFit_137 rfl ?_
  refine fm_lcmp hc d_Pr_boundsFit_138 ?_
  refine fm_if_lt (tgt := 157) hc d_Pr_boundsFit_139 rfl (fun g => absurd g (fun g => absurd ((l64_lt v 0).mp ((lg_cmp_lt _ _).mp g)) h1)) (fun _ => ?_)
  refine fm_aload_n hc d_Pr_boundsFit_142 rfl rfl ?_
  refine fm_getL (k := 4) hc K_Pr d_Pr_boundsFit_143 q_127 rfl (by decide) (by omega) (by decide) (by decide) (by decide) rfl ?_
  refine fm_top (congrArg Value.long hu) ?_
  refine fm_ldc2 (v := 20) hc d_Pr_boundsFit_146 q_626 ?_
  refine fm_lcmp hc d_Pr_boundsFit_149 ?_
  refine fm_if_gt (tgt := 157) hc d_Pr_boundsFit_150 rfl (fun _ => ?_) (fun g => absurd ((lg_cmp_gt _ _).mpr ((l64_lt 20 v).mpr (Int32.not_le.mp h2))) g)
  refine fm_iconst (v := nI 0) hc d_Pr_boundsFit_157 rfl ?_
  exact fm_zret (ty := .boolean) hc hr (by first | rfl | decide) d_Pr_boundsFit_158 (Nat.le_refl _) (Nat.le_refl _) ⟨rfl, rfl, rfl⟩
theorem c_bnd_14 {l : Launch} {b : Nat} {x : Nat → Nat} {D : va_G} {dA : Nat → ClassId} {tr np : Nat}  {n : Nat} {M : fm_M} (hn : 586 ≤ n) (t8 : 70 ≤ tr) (tn : tr < n) (t1n : tr + 1 < n) (t2n : tr + 2 < n) (t3n : tr + 3 < n) (tl : (fm_lay tr).1 = 5) (tl1 : fm_lay (tr + 1) = (110, 6)) (tl2 : fm_lay (tr + 2) = (110, 8)) (tl3 : fm_lay (tr + 3) = (110, 8)) (ht1 : M.2.2 tr 10 = some (tr + 1)) (ht2 : M.2.2 tr 11 = some (tr + 2)) (ht3 : M.2.2 tr 12 = some (tr + 3)) (hcd : M.1 60 1 = nI 14) (hq : M.1 tr 9 = nI np) (hq2 : np ≤ 8) (h1 : np < 8) : Met l y_Pr_boundsFit (Cond.code y_Pr_boundsFit b_Pr_boundsFit 2 (some .boolean) :: fm_T0) ({ frames := 0, cells := 0, slots := 0, locals := 0 }) (fm_Pc fm_lay fm_nf fm_fk fm_cl b x D dA (fm_tys dA) (fm_EX b x) false [.ref 60, .ref tr] n M) (fm_Qc fm_lay fm_nf fm_fk fm_cl b x D dA (fun r n' M' => r = some (.int (nI 1)) ∧ n' = n ∧ M' = M)) 0 0 (fm_A b) := by
  refine fm_enter (by decide) (Nat.le_of_ble_eq_true rfl) ?_
  intro p e s m args below meth c9 hc hr hnm hex htg
  refine fm_aload_n hc d_Pr_boundsFit_0 rfl rfl ?_
  refine fm_getI (k := 1) hc K_Pr d_Pr_boundsFit_1 q_124 rfl (by decide) (by omega) (by decide) (by decide) (by decide) rfl ?_
  refine fm_top (congrArg Value.int hcd) ?_
  refine fm_tableIn (off := 155) (tgt := 159) hc d_Pr_boundsFit_4 (by decide) (by decide) rfl rfl ?_
  refine fm_aload_n hc d_Pr_boundsFit_159 rfl rfl ?_
  refine fm_getI (k := 9) hc K_Tr d_Pr_boundsFit_160 q_215 rfl (by omega) tn tl (by decide) (by decide) rfl ?_
  refine fm_top (congrArg Value.int hq) ?_
  refine fm_bipush (v := nI 8) hc d_Pr_boundsFit_163 rfl ?_
  refine fm_icmp_ge (tgt := 172) hc d_Pr_boundsFit_165 rfl (fun g => absurd g (hnle (a := 8) (c := np) h1 (by omega))) (fun _ => ?_)
  refine fm_iconst (v := nI 1) hc d_Pr_boundsFit_168 rfl ?_
  refine fm_goto (tgt := 173) hc d_Pr_boundsFit_169 rfl ?_
  exact fm_zret (ty := .boolean) hc hr (by first | rfl | decide) d_Pr_boundsFit_173 (Nat.le_refl _) (Nat.le_refl _) ⟨rfl, rfl, rfl⟩
theorem c_bnd_14n {l : Launch} {b : Nat} {x : Nat → Nat} {D : va_G} {dA : Nat → ClassId} {tr np : Nat}  {n : Nat} {M : fm_M} (hn : 586 ≤ n) (t8 : 70 ≤ tr) (tn : tr < n) (t1n : tr + 1 < n) (t2n : tr + 2 < n) (t3n : tr + 3 < n) (tl : (fm_lay tr).1 = 5) (tl1 : fm_lay (tr + 1) = (110, 6)) (tl2 : fm_lay (tr + 2) = (110, 8)) (tl3 : fm_lay (tr + 3) = (110, 8)) (ht1 : M.2.2 tr 10 = some (tr + 1)) (ht2 : M.2.2 tr 11 = some (tr + 2)) (ht3 : M.2.2 tr 12 = some (tr + 3)) (hcd : M.1 60 1 = nI 14) (hq : M.1 tr 9 = nI np) (hq2 : np ≤ 8) (h1 : 8 ≤ np) : Met l y_Pr_boundsFit (Cond.code y_Pr_boundsFit b_Pr_boundsFit 2 (some .boolean) :: fm_T0) ({ frames := 0, cells := 0, slots := 0, locals := 0 }) (fm_Pc fm_lay fm_nf fm_fk fm_cl b x D dA (fm_tys dA) (fm_EX b x) false [.ref 60, .ref tr] n M) (fm_Qc fm_lay fm_nf fm_fk fm_cl b x D dA (fun r n' M' => r = some (.int (nI 0)) ∧ n' = n ∧ M' = M)) 0 0 (fm_A b) := by
  refine fm_enter (by decide) (Nat.le_of_ble_eq_true rfl) ?_
  intro p e s m args below meth c9 hc hr hnm hex htg
  refine fm_aload_n hc d_Pr_boundsFit_0 rfl rfl ?_
  refine fm_getI (k := 1) hc K_Pr d_Pr_boundsFit_1 q_124 rfl (by decide) (by omega) (by decide) (by decide) (by decide) rfl ?_
  refine fm_top (congrArg Value.int hcd) ?_
  refine fm_tableIn (off := 155) (tgt := 159) hc d_Pr_boundsFit_4 (by decide) (by decide) rfl rfl ?_
  refine fm_aload_n hc d_Pr_boundsFit_159 rfl rfl ?_
  refine fm_getI (k := 9) hc K_Tr d_Pr_boundsFit_160 q_215 rfl (by omega) tn tl (by decide) (by decide) rfl ?_
  refine fm_top (congrArg Value.int hq) ?_
  refine fm_bipush (v := nI 8) hc d_Pr_boundsFit_163 rfl ?_
  refine fm_icmp_ge (tgt := 172) hc d_Pr_boundsFit_165 rfl (fun _ => ?_) (fun g => absurd (nI_le h1 (by omega)) g)
  refine fm_iconst (v := nI 0) hc d_Pr_boundsFit_172 rfl ?_
  exact fm_zret (ty := .boolean) hc hr (by first | rfl | decide) d_Pr_boundsFit_173 (Nat.le_refl _) (Nat.le_refl _) ⟨rfl, rfl, rfl⟩
theorem c_pushPair {l : Launch} {b : Nat} {x : Nat → Nat} {D : va_G} {dA : Nat → ClassId} {tr d np : Nat}  {p1 p2 : Int64} {n : Nat} {M : fm_M} (hn : 586 ≤ n) (t8 : 70 ≤ tr) (tn : tr < n) (t1n : tr + 1 < n) (t2n : tr + 2 < n) (t3n : tr + 3 < n) (tl : (fm_lay tr).1 = 5) (tl1 : fm_lay (tr + 1) = (110, 6)) (tl2 : fm_lay (tr + 2) = (110, 8)) (tl3 : fm_lay (tr + 3) = (110, 8)) (ht1 : M.2.2 tr 10 = some (tr + 1)) (ht2 : M.2.2 tr 11 = some (tr + 2)) (ht3 : M.2.2 tr 12 = some (tr + 3)) (hq : M.1 tr 9 = nI np) (hq8 : np < 8) (hd : M.1 tr 8 = nI d) (hd6 : d < 6) : Met l y_Tr_pushPair (Cond.code y_Tr_pushPair b_Tr_pushPair 5 none :: fm_T0) ({ frames := 1, cells := 0, slots := 0, locals := 25 }) (fm_Pc fm_lay fm_nf fm_fk fm_cl b x D dA (fm_tys dA) (fm_EX b x) false [.ref tr, .long p1, .long p2] n M) (fm_Qc fm_lay fm_nf fm_fk fm_cl b x D dA (fun r n' M' => r = none ∧ n' = n ∧ M' = fm_put1 (fm_put1 (fm_put2 (fm_put2 (fm_put2 M (tr + 2) np p1) (tr + 3) np p2) (tr + 1) d (1099511627776 + (nI np).toInt64)) tr 8 (nI (d + 1))) tr 9 (nI (np + 1)))) 0 0 (fm_A b) := by
  refine fm_enter (by decide) (Nat.le_of_ble_eq_true rfl) ?_
  intro p e s m args below meth c9 hc hr hnm hex htg
  refine fm_aload_n hc d_Tr_pushPair_0 rfl rfl ?_
  refine fm_getI (k := 9) hc K_Tr d_Tr_pushPair_1 q_212 rfl (by omega) tn tl (by decide) (by decide) rfl ?_
  refine fm_top (congrArg Value.int hq) ?_
  refine fm_bipush (v := nI 8) hc d_Tr_pushPair_4 rfl ?_
  refine fm_icmp_ge (tgt := 52) hc d_Tr_pushPair_6 rfl (fun g => absurd g (hnle (a := 8) (c := np) hq8 (by omega))) (fun _ => ?_)
  refine fm_aload_n hc d_Tr_pushPair_9 rfl rfl ?_
  refine fm_getR (k := 11) (q := tr + 2) hc K_Tr d_Tr_pushPair_10 q_220 rfl (by omega) tn tl (by decide) (by decide) rfl ht2 ?_
  refine fm_aload_n hc d_Tr_pushPair_13 rfl rfl ?_
  refine fm_getI (k := 9) hc K_Tr d_Tr_pushPair_14 q_212 rfl (by omega) tn tl (by decide) (by decide) rfl ?_
  refine fm_top (congrArg Value.int hq) ?_
  refine fm_lload_n hc d_Tr_pushPair_17 rfl rfl ?_
  refine fm_last (j := np) (len := 8) (v := p1) hc 3 d_Tr_pushPair_18 (by omega) t2n tl2 rfl (by omega) (by decide) ?_
  refine fm_aload_n hc d_Tr_pushPair_19 rfl rfl ?_
  refine fm_getR (k := 12) (q := tr + 3) hc K_Tr d_Tr_pushPair_20 q_224 rfl (by omega) tn tl (by decide) (by decide) rfl ht3 ?_
  refine fm_aload_n hc d_Tr_pushPair_23 rfl rfl ?_
  refine fm_getI (k := 9) hc K_Tr d_Tr_pushPair_24 q_212 rfl (by omega) tn tl (by decide) (by decide) rfl ?_
  refine fm_top (congrArg Value.int hq) ?_
  refine fm_lload_n hc d_Tr_pushPair_27 rfl rfl ?_
  refine fm_last (j := np) (len := 8) (v := p2) hc 3 d_Tr_pushPair_28 (by omega) t3n tl3 rfl (by omega) (by decide) ?_
  refine fm_aload_n hc d_Tr_pushPair_29 rfl rfl ?_
  refine fm_ldc2 (v := 1099511627776) hc d_Tr_pushPair_30 q_636 ?_
  refine fm_aload_n hc d_Tr_pushPair_33 rfl rfl ?_
  refine fm_getI (k := 9) hc K_Tr d_Tr_pushPair_34 q_212 rfl (by omega) tn tl (by decide) (by decide) rfl ?_
  refine fm_top (congrArg Value.int hq) ?_
  refine fm_i2l hc d_Tr_pushPair_37 ?_
  refine fm_ladd hc d_Tr_pushPair_38 ?_
  refine fm_callV (av := [.long (1099511627776 + ((nI np).toInt64))]) (rest := []) (ob := tr) (ci := 5) (r0 := ("AgentNet$Traveller", F_Tr, 13)) (y := y_Tr_push) (bytes := b_Tr_push) hc fm_T0_good (fm_EX_st b x) hex q_640 q_8 q_637 q_638 q_639 pd_Tr_push (by omega) tn tl (by decide) rfl rfl (c_push (M := fm_put2 (fm_put2 M (tr + 2) np p1) (tr + 3) np p2) (d := d) (by omega) tn t1n tl tl1 ht1 hd hd6) ⟨rfl, rfl, Nat.le_of_ble_eq_true rfl, Nat.le_of_ble_eq_true rfl⟩ ⟨Nat.le_of_ble_eq_true rfl, Nat.le_of_ble_eq_true rfl⟩ d_Tr_pushPair_39 (Nat.le_of_ble_eq_true rfl) (fun r n2 M2 hp => ?_)
  obtain ⟨rfl, hq1, hq2⟩ := hp
  replace hq1 := hq1.symm
  replace hq2 := hq2.symm
  subst hq1 hq2
  refine fm_cnt (z' := (0, 0)) rfl (fm_st (st' := []) rfl ?_)
  refine fm_aload_n hc d_Tr_pushPair_42 rfl rfl ?_
  refine fm_dup hc d_Tr_pushPair_43 rfl ?_
  refine fm_getI (k := 9) hc K_Tr d_Tr_pushPair_44 q_212 rfl (by omega) tn tl (by decide) (by decide) rfl ?_
  refine fm_top (congrArg Value.int ((p1_at (by decide)).trans hq)) ?_
  refine fm_iconst (v := nI 1) hc d_Tr_pushPair_47 rfl ?_
  refine fm_iadd hc d_Tr_pushPair_48 ?_
  refine fm_top (congrArg Value.int (nI_add np 1)) ?_
  refine fm_putI (k := 9) (v := nI (np + 1)) hc K_Tr d_Tr_pushPair_49 q_212 rfl (by omega) tn tl (by decide) (by decide) rfl rfl rfl rfl ?_
  exact fm_vret hc hr d_Tr_pushPair_52 (Nat.le_refl _) (Nat.le_refl _) ⟨rfl, rfl, rfl⟩
theorem c_say {l : Launch} {b : Nat} {x : Nat → Nat} {D : va_G} {dA : Nat → ClassId} {tr sd : Nat} {v : Int32} {n : Nat} {M : fm_M} (hn : 586 ≤ n) (t8 : 70 ≤ tr) (tn : tr < n) (t1n : tr + 1 < n) (t2n : tr + 2 < n) (t3n : tr + 3 < n) (tl : (fm_lay tr).1 = 5) (tl1 : fm_lay (tr + 1) = (110, 6)) (tl2 : fm_lay (tr + 2) = (110, 8)) (tl3 : fm_lay (tr + 3) = (110, 8)) (ht1 : M.2.2 tr 10 = some (tr + 1)) (ht2 : M.2.2 tr 11 = some (tr + 2)) (ht3 : M.2.2 tr 12 = some (tr + 3)) (hu : M.2.1 60 4 = v.toInt64) (hs : M.1 tr 5 = nI sd) : Met l y_Pr_say (Cond.code y_Pr_say b_Pr_say 2 (some .int) :: fm_T0) ({ frames := 0, cells := 0, slots := 0, locals := 0 }) (fm_Pc fm_lay fm_nf fm_fk fm_cl b x D dA (fm_tys dA) (fm_EX b x) false [.ref 60, .ref tr] n M) (fm_Qc fm_lay fm_nf fm_fk fm_cl b x D dA (fun r n' M' => r = some (.int (nI 1)) ∧ n' = n ∧ M' = fm_put1 (fm_put1 M tr 5 (nI (sd + 1))) 60 5 v)) 0 0 (fm_A b) := by
  refine fm_enter (by decide) (Nat.le_of_ble_eq_true rfl) ?_
  intro p e s m args below meth c9 hc hr hnm hex htg
  refine fm_aload_n hc d_Pr_say_0 rfl rfl ?_
  refine fm_dup hc d_Pr_say_1 rfl ?_
  refine fm_getI (k := 5) hc K_Tr d_Pr_say_2 q_198 rfl (by omega) tn tl (by decide) (by decide) rfl ?_
  refine fm_top (congrArg Value.int hs) ?_
  refine fm_iconst (v := nI 1) hc d_Pr_say_5 rfl ?_
  refine fm_iadd hc d_Pr_say_6 ?_
  refine fm_top (congrArg Value.int (nI_add sd 1)) ?_
  refine fm_putI (k := 5) (v := nI (sd + 1)) hc K_Tr d_Pr_say_7 q_198 rfl (by omega) tn tl (by decide) (by decide) rfl rfl rfl rfl ?_
  refine fm_aload_n hc d_Pr_say_10 rfl rfl ?_
  refine fm_aload_n hc d_Pr_say_11 rfl rfl ?_
  refine fm_getL (k := 4) hc K_Pr d_Pr_say_12 q_127 rfl (by decide) (by omega) (by decide) (by decide) (by decide) rfl ?_
  refine fm_top (congrArg Value.long hu) ?_
  refine fm_l2i hc d_Pr_say_15 ?_
  refine fm_top (congrArg Value.int (vx_low v)) ?_
  refine fm_putI (k := 5) (v := v) hc K_Pr d_Pr_say_16 q_128 rfl (by decide) (by omega) (by decide) (by decide) (by decide) rfl rfl rfl rfl ?_
  refine fm_iconst (v := nI 1) hc d_Pr_say_19 rfl ?_
  exact fm_iret hc hr d_Pr_say_20 (Nat.le_refl _) (Nat.le_refl _) ⟨rfl, rfl, rfl⟩
theorem c_go_stay {l : Launch} {b : Nat} {x : Nat → Nat} {D : va_G} {dA : Nat → ClassId} {tr y : Nat} {v : Int32} {n : Nat} {M : fm_M} (hn : 586 ≤ n) (t8 : 70 ≤ tr) (tn : tr < n) (t1n : tr + 1 < n) (t2n : tr + 2 < n) (t3n : tr + 3 < n) (tl : (fm_lay tr).1 = 5) (tl1 : fm_lay (tr + 1) = (110, 6)) (tl2 : fm_lay (tr + 2) = (110, 8)) (tl3 : fm_lay (tr + 3) = (110, 8)) (ht1 : M.2.2 tr 10 = some (tr + 1)) (ht2 : M.2.2 tr 11 = some (tr + 2)) (ht3 : M.2.2 tr 12 = some (tr + 3)) (hu : M.2.1 60 4 = v.toInt64) (h1 : v = nI y) : Met l y_Pr_go (Cond.code y_Pr_go b_Pr_go 3 (some .int) :: fm_T0) ({ frames := 0, cells := 0, slots := 0, locals := 0 }) (fm_Pc fm_lay fm_nf fm_fk fm_cl b x D dA (fm_tys dA) (fm_EX b x) false [.ref 60, .ref tr, .int (nI y)] n M) (fm_Qc fm_lay fm_nf fm_fk fm_cl b x D dA (fun r n' M' => r = some (.int (nI 0)) ∧ n' = n ∧ M' = M)) 0 0 (fm_A b) := by
  refine fm_enter (by decide) (Nat.le_of_ble_eq_true rfl) ?_
  intro p e s m args below meth c9 hc hr hnm hex htg
  refine fm_aload_n hc d_Pr_go_0 rfl rfl ?_
  refine fm_getL (k := 4) hc K_Pr d_Pr_go_1 q_127 rfl (by decide) (by omega) (by decide) (by decide) (by decide) rfl ?_
  refine fm_top (congrArg Value.long hu) ?_
  refine fm_iload_n hc d_Pr_go_4 rfl rfl ?_
  refine fm_i2l hc d_Pr_go_5 ?_
  refine fm_lcmp hc d_Pr_go_6 ?_
  refine fm_if_ne (tgt := 12) hc d_Pr_go_7 rfl (fun g => absurd ((lg_cmp_eq _ _).mpr (congrArg Int32.toInt64 h1)) g) (fun _ => ?_)
  refine fm_iconst (v := nI 0) hc d_Pr_go_10 rfl ?_
  exact fm_iret hc hr d_Pr_go_11 (Nat.le_refl _) (Nat.le_refl _) ⟨rfl, rfl, rfl⟩
theorem c_go_move {l : Launch} {b : Nat} {x : Nat → Nat} {D : va_G} {dA : Nat → ClassId} {tr y hp : Nat} {v : Int32} {n : Nat} {M : fm_M} (hn : 586 ≤ n) (t8 : 70 ≤ tr) (tn : tr < n) (t1n : tr + 1 < n) (t2n : tr + 2 < n) (t3n : tr + 3 < n) (tl : (fm_lay tr).1 = 5) (tl1 : fm_lay (tr + 1) = (110, 6)) (tl2 : fm_lay (tr + 2) = (110, 8)) (tl3 : fm_lay (tr + 3) = (110, 8)) (ht1 : M.2.2 tr 10 = some (tr + 1)) (ht2 : M.2.2 tr 11 = some (tr + 2)) (ht3 : M.2.2 tr 12 = some (tr + 3)) (hu : M.2.1 60 4 = v.toInt64) (h1 : ¬ v = nI y) (hh : M.1 tr 4 = nI hp) : Met l y_Pr_go (Cond.code y_Pr_go b_Pr_go 3 (some .int) :: fm_T0) ({ frames := 0, cells := 0, slots := 0, locals := 0 }) (fm_Pc fm_lay fm_nf fm_fk fm_cl b x D dA (fm_tys dA) (fm_EX b x) false [.ref 60, .ref tr, .int (nI y)] n M) (fm_Qc fm_lay fm_nf fm_fk fm_cl b x D dA (fun r n' M' => r = some (.int (nI 2)) ∧ n' = n ∧ M' = fm_put1 (fm_put1 M tr 4 (nI (hp + 1))) 60 5 v)) 0 0 (fm_A b) := by
  refine fm_enter (by decide) (Nat.le_of_ble_eq_true rfl) ?_
  intro p e s m args below meth c9 hc hr hnm hex htg
  refine fm_aload_n hc d_Pr_go_0 rfl rfl ?_
  refine fm_getL (k := 4) hc K_Pr d_Pr_go_1 q_127 rfl (by decide) (by omega) (by decide) (by decide) (by decide) rfl ?_
  refine fm_top (congrArg Value.long hu) ?_
  refine fm_iload_n hc d_Pr_go_4 rfl rfl ?_
  refine fm_i2l hc d_Pr_go_5 ?_
  refine fm_lcmp hc d_Pr_go_6 ?_
  refine fm_if_ne (tgt := 12) hc d_Pr_go_7 rfl (fun _ => ?_) (fun g => absurd g (fun g => h1 ((l64_eq _ _).mp ((lg_cmp_eq _ _).mp g))))
  refine fm_aload_n hc d_Pr_go_12 rfl rfl ?_
  refine fm_dup hc d_Pr_go_13 rfl ?_
  refine fm_getI (k := 4) hc K_Tr d_Pr_go_14 q_193 rfl (by omega) tn tl (by decide) (by decide) rfl ?_
  refine fm_top (congrArg Value.int hh) ?_
  refine fm_iconst (v := nI 1) hc d_Pr_go_17 rfl ?_
  refine fm_iadd hc d_Pr_go_18 ?_
  refine fm_top (congrArg Value.int (nI_add hp 1)) ?_
  refine fm_putI (k := 4) (v := nI (hp + 1)) hc K_Tr d_Pr_go_19 q_193 rfl (by omega) tn tl (by decide) (by decide) rfl rfl rfl rfl ?_
  refine fm_aload_n hc d_Pr_go_22 rfl rfl ?_
  refine fm_aload_n hc d_Pr_go_23 rfl rfl ?_
  refine fm_getL (k := 4) hc K_Pr d_Pr_go_24 q_127 rfl (by decide) (by omega) (by decide) (by decide) (by decide) rfl ?_
  refine fm_top (congrArg Value.long hu) ?_
  refine fm_l2i hc d_Pr_go_27 ?_
  refine fm_top (congrArg Value.int (vx_low v)) ?_
  refine fm_putI (k := 5) (v := v) hc K_Pr d_Pr_go_28 q_128 rfl (by decide) (by omega) (by decide) (by decide) (by decide) rfl rfl rfl rfl ?_
  refine fm_iconst (v := nI 2) hc d_Pr_go_31 rfl ?_
  exact fm_iret hc hr d_Pr_go_32 (Nat.le_refl _) (Nat.le_refl _) ⟨rfl, rfl, rfl⟩
theorem c_div_old {l : Launch} {b : Nat} {x : Nat → Nat} {D : va_G} {dA : Nat → ClassId} {tr y d : Nat} {v : Int32} {n : Nat} {M : fm_M} (hn : 586 ≤ n) (t8 : 70 ≤ tr) (tn : tr < n) (t1n : tr + 1 < n) (t2n : tr + 2 < n) (t3n : tr + 3 < n) (tl : (fm_lay tr).1 = 5) (tl1 : fm_lay (tr + 1) = (110, 6)) (tl2 : fm_lay (tr + 2) = (110, 8)) (tl3 : fm_lay (tr + 3) = (110, 8)) (ht1 : M.2.2 tr 10 = some (tr + 1)) (ht2 : M.2.2 tr 11 = some (tr + 2)) (ht3 : M.2.2 tr 12 = some (tr + 3)) (hu : M.2.1 60 4 = v.toInt64) (hd : M.1 tr 8 = nI d) (hd6 : d < 6) (hnu : M.1 tr 0 = nI y) (hy2 : y < 100) (h1 : 4 ≤ y) : Met l y_Pr_divide (Cond.code y_Pr_divide b_Pr_divide 2 (some .int) :: fm_T0) ({ frames := 1, cells := 0, slots := 0, locals := 25 }) (fm_Pc fm_lay fm_nf fm_fk fm_cl b x D dA (fm_tys dA) (fm_EX b x) false [.ref 60, .ref tr] n M) (fm_Qc fm_lay fm_nf fm_fk fm_cl b x D dA (fun r n' M' => r = some (.int (nI 0)) ∧ n' = n ∧ M' = fm_put1 (fm_put2 (M) (tr + 1) d ((-1))) tr 8 (nI (d + 1)))) 0 0 (fm_A b) := by
  refine fm_enter (by decide) (Nat.le_of_ble_eq_true rfl) ?_
  intro p e s m args below meth c9 hc hr hnm hex htg
  refine fm_aload_n hc d_Pr_divide_0 rfl rfl ?_
  refine fm_getI (k := 0) hc K_Tr d_Pr_divide_1 q_175 rfl (by omega) tn tl (by decide) (by decide) rfl ?_
  refine fm_top (congrArg Value.int hnu) ?_
  refine fm_iconst (v := nI 4) hc d_Pr_divide_4 rfl ?_
  refine fm_icmp_ge (tgt := 37) hc d_Pr_divide_5 rfl (fun _ => ?_) (fun g => absurd (nI_le h1 (by omega)) g)
  refine fm_aload_n hc d_Pr_divide_37 rfl rfl ?_
  refine fm_ldc2 (v := -1) hc d_Pr_divide_38 q_658 ?_
  refine fm_callV (av := [.long (-1)]) (rest := []) (ob := tr) (ci := 5) (r0 := ("AgentNet$Traveller", F_Tr, 13)) (y := y_Tr_push) (bytes := b_Tr_push) hc fm_T0_good (fm_EX_st b x) hex q_640 q_8 q_641 q_638 q_639 pd_Tr_push (by omega) tn tl (by decide) rfl rfl (c_push (d := d) (by omega) tn t1n tl tl1 ht1 hd hd6) ⟨rfl, rfl, Nat.le_of_ble_eq_true rfl, Nat.le_of_ble_eq_true rfl⟩ ⟨Nat.le_of_ble_eq_true rfl, Nat.le_of_ble_eq_true rfl⟩ d_Pr_divide_41 (Nat.le_of_ble_eq_true rfl) (fun r n2 M2 hp => ?_)
  obtain ⟨rfl, hq1, hq2⟩ := hp
  replace hq1 := hq1.symm
  replace hq2 := hq2.symm
  subst hq1 hq2
  refine fm_cnt (z' := (0, 0)) rfl (fm_st (st' := []) rfl ?_)
  refine fm_iconst (v := nI 0) hc d_Pr_divide_44 rfl ?_
  exact fm_iret hc hr d_Pr_divide_45 (Nat.le_refl _) (Nat.le_refl _) ⟨rfl, rfl, rfl⟩
theorem c_div_twice {l : Launch} {b : Nat} {x : Nat → Nat} {D : va_G} {dA : Nat → ClassId} {tr y d : Nat} {v : Int32} {n : Nat} {M : fm_M} (hn : 586 ≤ n) (t8 : 70 ≤ tr) (tn : tr < n) (t1n : tr + 1 < n) (t2n : tr + 2 < n) (t3n : tr + 3 < n) (tl : (fm_lay tr).1 = 5) (tl1 : fm_lay (tr + 1) = (110, 6)) (tl2 : fm_lay (tr + 2) = (110, 8)) (tl3 : fm_lay (tr + 3) = (110, 8)) (ht1 : M.2.2 tr 10 = some (tr + 1)) (ht2 : M.2.2 tr 11 = some (tr + 2)) (ht3 : M.2.2 tr 12 = some (tr + 3)) (hu : M.2.1 60 4 = v.toInt64) (hd : M.1 tr 8 = nI d) (hd6 : d < 6) (hnu : M.1 tr 0 = nI y) (hy2 : y < 100) (h1 : y < 4) (h2 : ¬ M.1 tr 7 = 0) : Met l y_Pr_divide (Cond.code y_Pr_divide b_Pr_divide 2 (some .int) :: fm_T0) ({ frames := 1, cells := 0, slots := 0, locals := 25 }) (fm_Pc fm_lay fm_nf fm_fk fm_cl b x D dA (fm_tys dA) (fm_EX b x) false [.ref 60, .ref tr] n M) (fm_Qc fm_lay fm_nf fm_fk fm_cl b x D dA (fun r n' M' => r = some (.int (nI 0)) ∧ n' = n ∧ M' = fm_put1 (fm_put2 (M) (tr + 1) d ((-1))) tr 8 (nI (d + 1)))) 0 0 (fm_A b) := by
  refine fm_enter (by decide) (Nat.le_of_ble_eq_true rfl) ?_
  intro p e s m args below meth c9 hc hr hnm hex htg
  refine fm_aload_n hc d_Pr_divide_0 rfl rfl ?_
  refine fm_getI (k := 0) hc K_Tr d_Pr_divide_1 q_175 rfl (by omega) tn tl (by decide) (by decide) rfl ?_
  refine fm_top (congrArg Value.int hnu) ?_
  refine fm_iconst (v := nI 4) hc d_Pr_divide_4 rfl ?_
  refine fm_icmp_ge (tgt := 37) hc d_Pr_divide_5 rfl (fun g => absurd g (hnle (a := 4) (c := y) h1 (by omega))) (fun _ => ?_)
  refine fm_aload_n hc d_Pr_divide_8 rfl rfl ?_
  refine fm_getI (k := 7) hc K_Tr d_Pr_divide_9 q_207 rfl (by omega) tn tl (by decide) (by decide) rfl ?_
  refine fm_if_ne (tgt := 37) hc d_Pr_divide_12 rfl (fun _ => ?_) (fun g => absurd g h2)
  refine fm_aload_n hc d_Pr_divide_37 rfl rfl ?_
  refine fm_ldc2 (v := -1) hc d_Pr_divide_38 q_658 ?_
  refine fm_callV (av := [.long (-1)]) (rest := []) (ob := tr) (ci := 5) (r0 := ("AgentNet$Traveller", F_Tr, 13)) (y := y_Tr_push) (bytes := b_Tr_push) hc fm_T0_good (fm_EX_st b x) hex q_640 q_8 q_641 q_638 q_639 pd_Tr_push (by omega) tn tl (by decide) rfl rfl (c_push (d := d) (by omega) tn t1n tl tl1 ht1 hd hd6) ⟨rfl, rfl, Nat.le_of_ble_eq_true rfl, Nat.le_of_ble_eq_true rfl⟩ ⟨Nat.le_of_ble_eq_true rfl, Nat.le_of_ble_eq_true rfl⟩ d_Pr_divide_41 (Nat.le_of_ble_eq_true rfl) (fun r n2 M2 hp => ?_)
  obtain ⟨rfl, hq1, hq2⟩ := hp
  replace hq1 := hq1.symm
  replace hq2 := hq2.symm
  subst hq1 hq2
  refine fm_cnt (z' := (0, 0)) rfl (fm_st (st' := []) rfl ?_)
  refine fm_iconst (v := nI 0) hc d_Pr_divide_44 rfl ?_
  exact fm_iret hc hr d_Pr_divide_45 (Nat.le_refl _) (Nat.le_refl _) ⟨rfl, rfl, rfl⟩
theorem c_div_low {l : Launch} {b : Nat} {x : Nat → Nat} {D : va_G} {dA : Nat → ClassId} {tr y d : Nat} {v : Int32} {n : Nat} {M : fm_M} (hn : 586 ≤ n) (t8 : 70 ≤ tr) (tn : tr < n) (t1n : tr + 1 < n) (t2n : tr + 2 < n) (t3n : tr + 3 < n) (tl : (fm_lay tr).1 = 5) (tl1 : fm_lay (tr + 1) = (110, 6)) (tl2 : fm_lay (tr + 2) = (110, 8)) (tl3 : fm_lay (tr + 3) = (110, 8)) (ht1 : M.2.2 tr 10 = some (tr + 1)) (ht2 : M.2.2 tr 11 = some (tr + 2)) (ht3 : M.2.2 tr 12 = some (tr + 3)) (hu : M.2.1 60 4 = v.toInt64) (hd : M.1 tr 8 = nI d) (hd6 : d < 6) (hnu : M.1 tr 0 = nI y) (hy2 : y < 100) (h1 : y < 4) (h2 : M.1 tr 7 = 0) (h3 : v < 1) : Met l y_Pr_divide (Cond.code y_Pr_divide b_Pr_divide 2 (some .int) :: fm_T0) ({ frames := 1, cells := 0, slots := 0, locals := 25 }) (fm_Pc fm_lay fm_nf fm_fk fm_cl b x D dA (fm_tys dA) (fm_EX b x) false [.ref 60, .ref tr] n M) (fm_Qc fm_lay fm_nf fm_fk fm_cl b x D dA (fun r n' M' => r = some (.int (nI 0)) ∧ n' = n ∧ M' = fm_put1 (fm_put2 (M) (tr + 1) d ((-1))) tr 8 (nI (d + 1)))) 0 0 (fm_A b) := by
  refine fm_enter (by decide) (Nat.le_of_ble_eq_true rfl) ?_
  intro p e s m args below meth c9 hc hr hnm hex htg
  refine fm_aload_n hc d_Pr_divide_0 rfl rfl ?_
  refine fm_getI (k := 0) hc K_Tr d_Pr_divide_1 q_175 rfl (by omega) tn tl (by decide) (by decide) rfl ?_
  refine fm_top (congrArg Value.int hnu) ?_
  refine fm_iconst (v := nI 4) hc d_Pr_divide_4 rfl ?_
  refine fm_icmp_ge (tgt := 37) hc d_Pr_divide_5 rfl (fun g => absurd g (hnle (a := 4) (c := y) h1 (by omega))) (fun _ => ?_)
  refine fm_aload_n hc d_Pr_divide_8 rfl rfl ?_
  refine fm_getI (k := 7) hc K_Tr d_Pr_divide_9 q_207 rfl (by omega) tn tl (by decide) (by decide) rfl ?_
  refine fm_if_ne (tgt := 37) hc d_Pr_divide_12 rfl (fun g => absurd h2 g) (fun _ => ?_)
  refine fm_aload_n hc d_Pr_divide_15 rfl rfl ?_
  refine fm_getL (k := 4) hc K_Pr d_Pr_divide_16 q_127 rfl (by decide) (by omega) (by decide) (by decide) (by decide) rfl ?_
  refine fm_top (congrArg Value.long hu) ?_
  refine fm_lconst (v := 1) hc d_Pr_divide_19 rfl ?_
  refine fm_lcmp hc d_Pr_divide_20 ?_
  refine fm_if_lt (tgt := 37) hc d_Pr_divide_21 rfl (fun _ => ?_) (fun g => absurd ((lg_cmp_lt _ _).mpr ((l64_lt v 1).mpr h3)) g)
  refine fm_aload_n hc d_Pr_divide_37 rfl rfl ?_
  refine fm_ldc2 (v := -1) hc d_Pr_divide_38 q_658 ?_
  refine fm_callV (av := [.long (-1)]) (rest := []) (ob := tr) (ci := 5) (r0 := ("AgentNet$Traveller", F_Tr, 13)) (y := y_Tr_push) (bytes := b_Tr_push) hc fm_T0_good (fm_EX_st b x) hex q_640 q_8 q_641 q_638 q_639 pd_Tr_push (by omega) tn tl (by decide) rfl rfl (c_push (d := d) (by omega) tn t1n tl tl1 ht1 hd hd6) ⟨rfl, rfl, Nat.le_of_ble_eq_true rfl, Nat.le_of_ble_eq_true rfl⟩ ⟨Nat.le_of_ble_eq_true rfl, Nat.le_of_ble_eq_true rfl⟩ d_Pr_divide_41 (Nat.le_of_ble_eq_true rfl) (fun r n2 M2 hp => ?_)
  obtain ⟨rfl, hq1, hq2⟩ := hp
  replace hq1 := hq1.symm
  replace hq2 := hq2.symm
  subst hq1 hq2
  refine fm_cnt (z' := (0, 0)) rfl (fm_st (st' := []) rfl ?_)
  refine fm_iconst (v := nI 0) hc d_Pr_divide_44 rfl ?_
  exact fm_iret hc hr d_Pr_divide_45 (Nat.le_refl _) (Nat.le_refl _) ⟨rfl, rfl, rfl⟩
theorem c_div_much {l : Launch} {b : Nat} {x : Nat → Nat} {D : va_G} {dA : Nat → ClassId} {tr y d fu : Nat} {v : Int32} {n : Nat} {M : fm_M} (hn : 586 ≤ n) (t8 : 70 ≤ tr) (tn : tr < n) (t1n : tr + 1 < n) (t2n : tr + 2 < n) (t3n : tr + 3 < n) (tl : (fm_lay tr).1 = 5) (tl1 : fm_lay (tr + 1) = (110, 6)) (tl2 : fm_lay (tr + 2) = (110, 8)) (tl3 : fm_lay (tr + 3) = (110, 8)) (ht1 : M.2.2 tr 10 = some (tr + 1)) (ht2 : M.2.2 tr 11 = some (tr + 2)) (ht3 : M.2.2 tr 12 = some (tr + 3)) (hu : M.2.1 60 4 = v.toInt64) (hd : M.1 tr 8 = nI d) (hd6 : d < 6) (hnu : M.1 tr 0 = nI y) (hy2 : y < 100) (h1 : y < 4) (h2 : M.1 tr 7 = 0) (h3 : ¬ v < 1) (hf : M.1 tr 3 = nI fu) (h4 : nI fu < v) : Met l y_Pr_divide (Cond.code y_Pr_divide b_Pr_divide 2 (some .int) :: fm_T0) ({ frames := 1, cells := 0, slots := 0, locals := 25 }) (fm_Pc fm_lay fm_nf fm_fk fm_cl b x D dA (fm_tys dA) (fm_EX b x) false [.ref 60, .ref tr] n M) (fm_Qc fm_lay fm_nf fm_fk fm_cl b x D dA (fun r n' M' => r = some (.int (nI 0)) ∧ n' = n ∧ M' = fm_put1 (fm_put2 (M) (tr + 1) d ((-1))) tr 8 (nI (d + 1)))) 0 0 (fm_A b) := by
  refine fm_enter (by decide) (Nat.le_of_ble_eq_true rfl) ?_
  intro p e s m args below meth c9 hc hr hnm hex htg
  refine fm_aload_n hc d_Pr_divide_0 rfl rfl ?_
  refine fm_getI (k := 0) hc K_Tr d_Pr_divide_1 q_175 rfl (by omega) tn tl (by decide) (by decide) rfl ?_
  refine fm_top (congrArg Value.int hnu) ?_
  refine fm_iconst (v := nI 4) hc d_Pr_divide_4 rfl ?_
  refine fm_icmp_ge (tgt := 37) hc d_Pr_divide_5 rfl (fun g => absurd g (hnle (a := 4) (c := y) h1 (by omega))) (fun _ => ?_)
  refine fm_aload_n hc d_Pr_divide_8 rfl rfl ?_
  refine fm_getI (k := 7) hc K_Tr d_Pr_divide_9 q_207 rfl (by omega) tn tl (by decide) (by decide) rfl ?_
  refine fm_if_ne (tgt := 37) hc d_Pr_divide_12 rfl (fun g => absurd h2 g) (fun _ => ?_)
  refine fm_aload_n hc d_Pr_divide_15 rfl rfl ?_
  refine fm_getL (k := 4) hc K_Pr d_Pr_divide_16 q_127 rfl (by decide) (by omega) (by decide) (by decide) (by decide) rfl ?_
  refine fm_top (congrArg Value.long hu) ?_
  refine fm_lconst (v := 1) hc d_Pr_divide_19 rfl ?_
  refine fm_lcmp hc d_Pr_divide_20 ?_
  refine fm_if_lt (tgt := 37) hc d_Pr_divide_21 rfl (fun g => absurd g (fun g => absurd ((l64_lt v 1).mp ((lg_cmp_lt _ _).mp g)) h3)) (fun _ => ?_)
  refine fm_aload_n hc d_Pr_divide_24 rfl rfl ?_
  refine fm_getL (k := 4) hc K_Pr d_Pr_divide_25 q_127 rfl (by decide) (by omega) (by decide) (by decide) (by decide) rfl ?_
  refine fm_top (congrArg Value.long hu) ?_
  refine fm_aload_n hc d_Pr_divide_28 rfl rfl ?_
  refine fm_getI (k := 3) hc K_Tr d_Pr_divide_29 q_184 rfl (by omega) tn tl (by decide) (by decide) rfl ?_
  refine fm_top (congrArg Value.int hf) ?_
  refine fm_i2l hc d_Pr_divide_32 ?_
  refine fm_lcmp hc d_Pr_divide_33 ?_
  refine fm_if_le (tgt := 46) hc d_Pr_divide_34 rfl (fun g => absurd g (fun g => absurd ((l64_le v (nI fu)).mp ((lg_cmp_le _ _).mp g)) (Int32.not_le.mpr h4))) (fun _ => ?_)
  refine fm_aload_n hc d_Pr_divide_37 rfl rfl ?_
  refine fm_ldc2 (v := -1) hc d_Pr_divide_38 q_658 ?_
  refine fm_callV (av := [.long (-1)]) (rest := []) (ob := tr) (ci := 5) (r0 := ("AgentNet$Traveller", F_Tr, 13)) (y := y_Tr_push) (bytes := b_Tr_push) hc fm_T0_good (fm_EX_st b x) hex q_640 q_8 q_641 q_638 q_639 pd_Tr_push (by omega) tn tl (by decide) rfl rfl (c_push (d := d) (by omega) tn t1n tl tl1 ht1 hd hd6) ⟨rfl, rfl, Nat.le_of_ble_eq_true rfl, Nat.le_of_ble_eq_true rfl⟩ ⟨Nat.le_of_ble_eq_true rfl, Nat.le_of_ble_eq_true rfl⟩ d_Pr_divide_41 (Nat.le_of_ble_eq_true rfl) (fun r n2 M2 hp => ?_)
  obtain ⟨rfl, hq1, hq2⟩ := hp
  replace hq1 := hq1.symm
  replace hq2 := hq2.symm
  subst hq1 hq2
  refine fm_cnt (z' := (0, 0)) rfl (fm_st (st' := []) rfl ?_)
  refine fm_iconst (v := nI 0) hc d_Pr_divide_44 rfl ?_
  exact fm_iret hc hr d_Pr_divide_45 (Nat.le_refl _) (Nat.le_refl _) ⟨rfl, rfl, rfl⟩
theorem c_div_ok {l : Launch} {b : Nat} {x : Nat → Nat} {D : va_G} {dA : Nat → ClassId} {tr y d fu : Nat} {v : Int32} {n : Nat} {M : fm_M} (hn : 586 ≤ n) (t8 : 70 ≤ tr) (tn : tr < n) (t1n : tr + 1 < n) (t2n : tr + 2 < n) (t3n : tr + 3 < n) (tl : (fm_lay tr).1 = 5) (tl1 : fm_lay (tr + 1) = (110, 6)) (tl2 : fm_lay (tr + 2) = (110, 8)) (tl3 : fm_lay (tr + 3) = (110, 8)) (ht1 : M.2.2 tr 10 = some (tr + 1)) (ht2 : M.2.2 tr 11 = some (tr + 2)) (ht3 : M.2.2 tr 12 = some (tr + 3)) (hu : M.2.1 60 4 = v.toInt64) (hd : M.1 tr 8 = nI d) (hd6 : d < 6) (hnu : M.1 tr 0 = nI y) (hy2 : y < 100) (h1 : y < 4) (h2 : M.1 tr 7 = 0) (h3 : ¬ v < 1) (hf : M.1 tr 3 = nI fu) (h4 : ¬ nI fu < v) : Met l y_Pr_divide (Cond.code y_Pr_divide b_Pr_divide 2 (some .int) :: fm_T0) ({ frames := 1, cells := 0, slots := 0, locals := 25 }) (fm_Pc fm_lay fm_nf fm_fk fm_cl b x D dA (fm_tys dA) (fm_EX b x) false [.ref 60, .ref tr] n M) (fm_Qc fm_lay fm_nf fm_fk fm_cl b x D dA (fun r n' M' => r = some (.int (nI 3)) ∧ n' = n ∧ M' = fm_put1 (fm_put2 (fm_put1 (fm_put1 (fm_put1 M 60 5 v) tr 3 ((nI fu) - v)) tr 7 (nI 1)) (tr + 1) d 0) tr 8 (nI (d + 1)))) 0 0 (fm_A b) := by
  refine fm_enter (by decide) (Nat.le_of_ble_eq_true rfl) ?_
  intro p e s m args below meth c9 hc hr hnm hex htg
  refine fm_aload_n hc d_Pr_divide_0 rfl rfl ?_
  refine fm_getI (k := 0) hc K_Tr d_Pr_divide_1 q_175 rfl (by omega) tn tl (by decide) (by decide) rfl ?_
  refine fm_top (congrArg Value.int hnu) ?_
  refine fm_iconst (v := nI 4) hc d_Pr_divide_4 rfl ?_
  refine fm_icmp_ge (tgt := 37) hc d_Pr_divide_5 rfl (fun g => absurd g (hnle (a := 4) (c := y) h1 (by omega))) (fun _ => ?_)
  refine fm_aload_n hc d_Pr_divide_8 rfl rfl ?_
  refine fm_getI (k := 7) hc K_Tr d_Pr_divide_9 q_207 rfl (by omega) tn tl (by decide) (by decide) rfl ?_
  refine fm_if_ne (tgt := 37) hc d_Pr_divide_12 rfl (fun g => absurd h2 g) (fun _ => ?_)
  refine fm_aload_n hc d_Pr_divide_15 rfl rfl ?_
  refine fm_getL (k := 4) hc K_Pr d_Pr_divide_16 q_127 rfl (by decide) (by omega) (by decide) (by decide) (by decide) rfl ?_
  refine fm_top (congrArg Value.long hu) ?_
  refine fm_lconst (v := 1) hc d_Pr_divide_19 rfl ?_
  refine fm_lcmp hc d_Pr_divide_20 ?_
  refine fm_if_lt (tgt := 37) hc d_Pr_divide_21 rfl (fun g => absurd g (fun g => absurd ((l64_lt v 1).mp ((lg_cmp_lt _ _).mp g)) h3)) (fun _ => ?_)
  refine fm_aload_n hc d_Pr_divide_24 rfl rfl ?_
  refine fm_getL (k := 4) hc K_Pr d_Pr_divide_25 q_127 rfl (by decide) (by omega) (by decide) (by decide) (by decide) rfl ?_
  refine fm_top (congrArg Value.long hu) ?_
  refine fm_aload_n hc d_Pr_divide_28 rfl rfl ?_
  refine fm_getI (k := 3) hc K_Tr d_Pr_divide_29 q_184 rfl (by omega) tn tl (by decide) (by decide) rfl ?_
  refine fm_top (congrArg Value.int hf) ?_
  refine fm_i2l hc d_Pr_divide_32 ?_
  refine fm_lcmp hc d_Pr_divide_33 ?_
  refine fm_if_le (tgt := 46) hc d_Pr_divide_34 rfl (fun _ => ?_) (fun g => absurd ((lg_cmp_le _ _).mpr ((l64_le v (nI fu)).mpr (Int32.not_lt.mp h4))) g)
  refine fm_aload_n hc d_Pr_divide_46 rfl rfl ?_
  refine fm_aload_n hc d_Pr_divide_47 rfl rfl ?_
  refine fm_getL (k := 4) hc K_Pr d_Pr_divide_48 q_127 rfl (by decide) (by omega) (by decide) (by decide) (by decide) rfl ?_
  refine fm_top (congrArg Value.long hu) ?_
  refine fm_l2i hc d_Pr_divide_51 ?_
  refine fm_top (congrArg Value.int (vx_low v)) ?_
  refine fm_putI (k := 5) (v := v) hc K_Pr d_Pr_divide_52 q_128 rfl (by decide) (by omega) (by decide) (by decide) (by decide) rfl rfl rfl rfl ?_
  refine fm_aload_n hc d_Pr_divide_55 rfl rfl ?_
  refine fm_dup hc d_Pr_divide_56 rfl ?_
  refine fm_getI (k := 3) hc K_Tr d_Pr_divide_57 q_184 rfl (by omega) tn tl (by decide) (by decide) rfl ?_
  refine fm_top (congrArg Value.int ((p1_other (by omega)).trans hf)) ?_
  refine fm_aload_n hc d_Pr_divide_60 rfl rfl ?_
  refine fm_getI (k := 5) hc K_Pr d_Pr_divide_61 q_128 rfl (by decide) (by omega) (by decide) (by decide) (by decide) rfl ?_
  refine fm_top (congrArg Value.int ((p1_same _ _ _ _))) ?_
  refine fm_isub hc d_Pr_divide_64 ?_
  refine fm_putI (k := 3) (v := (nI fu) - v) hc K_Tr d_Pr_divide_65 q_184 rfl (by omega) tn tl (by decide) (by decide) rfl rfl rfl rfl ?_
  refine fm_aload_n hc d_Pr_divide_68 rfl rfl ?_
  refine fm_iconst (v := nI 1) hc d_Pr_divide_69 rfl ?_
  refine fm_putI (k := 7) (v := nI 1) hc K_Tr d_Pr_divide_70 q_207 rfl (by omega) tn tl (by decide) (by decide) rfl rfl rfl rfl ?_
  refine fm_aload_n hc d_Pr_divide_73 rfl rfl ?_
  refine fm_lconst (v := 0) hc d_Pr_divide_74 rfl ?_
  refine fm_callV (av := [.long 0]) (rest := []) (ob := tr) (ci := 5) (r0 := ("AgentNet$Traveller", F_Tr, 13)) (y := y_Tr_push) (bytes := b_Tr_push) hc fm_T0_good (fm_EX_st b x) hex q_640 q_8 q_641 q_638 q_639 pd_Tr_push (by omega) tn tl (by decide) rfl rfl (c_push (M := fm_put1 (fm_put1 (fm_put1 M 60 5 v) tr 3 ((nI fu) - v)) tr 7 (nI 1)) (d := d) (by omega) tn t1n tl tl1 ht1 ((p1_at (by decide)).trans ((p1_at (by decide)).trans ((p1_other (by omega)).trans hd))) hd6) ⟨rfl, rfl, Nat.le_of_ble_eq_true rfl, Nat.le_of_ble_eq_true rfl⟩ ⟨Nat.le_of_ble_eq_true rfl, Nat.le_of_ble_eq_true rfl⟩ d_Pr_divide_75 (Nat.le_of_ble_eq_true rfl) (fun r n2 M2 hp => ?_)
  obtain ⟨rfl, hq1, hq2⟩ := hp
  replace hq1 := hq1.symm
  replace hq2 := hq2.symm
  subst hq1 hq2
  refine fm_cnt (z' := (0, 0)) rfl (fm_st (st' := []) rfl ?_)
  refine fm_iconst (v := nI 3) hc d_Pr_divide_78 rfl ?_
  exact fm_iret hc hr d_Pr_divide_79 (Nat.le_refl _) (Nat.le_refl _) ⟨rfl, rfl, rfl⟩
