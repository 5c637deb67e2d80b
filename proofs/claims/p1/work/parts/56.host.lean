/-! host on both sides -/
theorem hnno {a c : Nat} (h : a ≠ c) (ha : a < 100) (hc : c < 100) : ¬ nI a = nI c := fun g => by
  have h1 := (nI_leI (a := a) (b := c) (by omega) (by omega)).mp (by rw [g]; exact Int32.le_refl _)
  have h2 := (nI_leI (a := c) (b := a) (by omega) (by omega)).mp (by rw [g]; exact Int32.le_refl _)
  omega
theorem hnle {a c : Nat} (h : c < a) (ha : a < 100) : ¬ nI a ≤ nI c := fun g => by
  have := (nI_leI (by omega) (by omega)).mp g
  omega
theorem hnlt {a c : Nat} (h : c ≤ a) (ha : a < 100) : ¬ nI a < nI c := fun g => by
  have := (nI_ltI (by omega) (by omega)).mp g
  omega
theorem t_tell_up0 {l : Launch} {b : Nat} {x : Nat → Nat} {D : va_G} {dA : Nat → ClassId} {j : Nat} {n : Nat} {M : fm_M} (hn : 586 ≤ n) (hj : j < 4) (hu : M.1 (90 + 124 * j) 1 = 0) : Met l y_Si_tell (Cond.code y_Si_tell b_Si_tell 2 (some .int) :: fm_T0) ({ frames := 0, cells := 0, slots := 0, locals := 0 }) (fm_Pc fm_lay fm_nf fm_fk fm_cl b x D dA (fm_tys dA) (fm_EX b x) false [.ref (90 + 124 * j), .int (nI 0)] n M) (fm_Qc fm_lay fm_nf fm_fk fm_cl b x D dA (fun r n' M' => r = some (.int (nI 0)) ∧ n' = n ∧ M' = M)) 0 0 (fm_A b) := by
  refine fm_enter (by decide) (Nat.le_of_ble_eq_true rfl) ?_
  intro p e s m args below meth c hc hr hnm hex htg
  refine fm_iload_n hc d_Si_tell_0 rfl rfl ?_
  refine fm_if_ne (tgt := 17) hc d_Si_tell_1 rfl (fun g => absurd rfl g) (fun _ => ?_)
  refine fm_aload_n hc d_Si_tell_4 rfl rfl ?_
  refine fm_getI (k := 1) hc K_Si d_Si_tell_5 q_333 rfl (by omega) (by omega) (ly_Si hj) (by decide) (by decide) rfl ?_
  refine fm_if_eq (tgt := 15) hc d_Si_tell_8 rfl (fun _ => ?_) (fun g => absurd hu g)
  refine fm_iconst (v := nI 0) hc d_Si_tell_15 rfl ?_
  exact fm_iret hc hr d_Si_tell_16 (Nat.le_refl _) (Nat.le_refl _) ⟨rfl, rfl, rfl⟩
theorem t_tell_up1 {l : Launch} {b : Nat} {x : Nat → Nat} {D : va_G} {dA : Nat → ClassId} {j : Nat} {n : Nat} {M : fm_M} (hn : 586 ≤ n) (hj : j < 4) (hu : ¬ M.1 (90 + 124 * j) 1 = 0) : Met l y_Si_tell (Cond.code y_Si_tell b_Si_tell 2 (some .int) :: fm_T0) ({ frames := 0, cells := 0, slots := 0, locals := 0 }) (fm_Pc fm_lay fm_nf fm_fk fm_cl b x D dA (fm_tys dA) (fm_EX b x) false [.ref (90 + 124 * j), .int (nI 0)] n M) (fm_Qc fm_lay fm_nf fm_fk fm_cl b x D dA (fun r n' M' => r = some (.int (nI 1)) ∧ n' = n ∧ M' = M)) 0 0 (fm_A b) := by
  refine fm_enter (by decide) (Nat.le_of_ble_eq_true rfl) ?_
  intro p e s m args below meth c hc hr hnm hex htg
  refine fm_iload_n hc d_Si_tell_0 rfl rfl ?_
  refine fm_if_ne (tgt := 17) hc d_Si_tell_1 rfl (fun g => absurd rfl g) (fun _ => ?_)
  refine fm_aload_n hc d_Si_tell_4 rfl rfl ?_
  refine fm_getI (k := 1) hc K_Si d_Si_tell_5 q_333 rfl (by omega) (by omega) (ly_Si hj) (by decide) (by decide) rfl ?_
  refine fm_if_eq (tgt := 15) hc d_Si_tell_8 rfl (fun g => absurd g hu) (fun _ => ?_)
  refine fm_iconst (v := nI 1) hc d_Si_tell_11 rfl ?_
  refine fm_goto (tgt := 16) hc d_Si_tell_12 rfl ?_
  exact fm_iret hc hr d_Si_tell_16 (Nat.le_refl _) (Nat.le_refl _) ⟨rfl, rfl, rfl⟩
theorem t_tell_left {l : Launch} {b : Nat} {x : Nat → Nat} {D : va_G} {dA : Nat → ClassId} {j : Nat} {n : Nat} {M : fm_M} (hn : 586 ≤ n) (hj : j < 4) : Met l y_Si_tell (Cond.code y_Si_tell b_Si_tell 2 (some .int) :: fm_T0) ({ frames := 0, cells := 0, slots := 0, locals := 0 }) (fm_Pc fm_lay fm_nf fm_fk fm_cl b x D dA (fm_tys dA) (fm_EX b x) false [.ref (90 + 124 * j), .int (nI 1)] n M) (fm_Qc fm_lay fm_nf fm_fk fm_cl b x D dA (fun r n' M' => r = some (.int (M.1 (90 + 124 * j) 2)) ∧ n' = n ∧ M' = M)) 0 0 (fm_A b) := by
  refine fm_enter (by decide) (Nat.le_of_ble_eq_true rfl) ?_
  intro p e s m args below meth c hc hr hnm hex htg
  refine fm_iload_n hc d_Si_tell_0 rfl rfl ?_
  refine fm_if_ne (tgt := 17) hc d_Si_tell_1 rfl (fun _ => ?_) (fun g => absurd g (by decide))
  refine fm_iload_n hc d_Si_tell_17 rfl rfl ?_
  refine fm_iconst (v := nI 1) hc d_Si_tell_18 rfl ?_
  refine fm_icmp_ne (tgt := 27) hc d_Si_tell_19 rfl (fun g => absurd rfl g) (fun _ => ?_)
  refine fm_aload_n hc d_Si_tell_22 rfl rfl ?_
  refine fm_getI (k := 2) hc K_Si d_Si_tell_23 q_335 rfl (by omega) (by omega) (ly_Si hj) (by decide) (by decide) rfl ?_
  exact fm_iret hc hr d_Si_tell_26 (Nat.le_refl _) (Nat.le_refl _) ⟨rfl, rfl, rfl⟩
theorem t_tell_down {l : Launch} {b : Nat} {x : Nat → Nat} {D : va_G} {dA : Nat → ClassId} {j : Nat} {w : Int32} {n : Nat} {M : fm_M} (hn : 586 ≤ n) (hj : j < 4) (h0 : ¬ w = 0) (h1 : ¬ w = nI 1) (hu : M.1 (90 + 124 * j) 1 = 0) : Met l y_Si_tell (Cond.code y_Si_tell b_Si_tell 2 (some .int) :: fm_T0) ({ frames := 0, cells := 0, slots := 0, locals := 0 }) (fm_Pc fm_lay fm_nf fm_fk fm_cl b x D dA (fm_tys dA) (fm_EX b x) false [.ref (90 + 124 * j), .int w] n M) (fm_Qc fm_lay fm_nf fm_fk fm_cl b x D dA (fun r n' M' => r = some (.int ((-1))) ∧ n' = n ∧ M' = M)) 0 0 (fm_A b) := by
  refine fm_enter (by decide) (Nat.le_of_ble_eq_true rfl) ?_
  intro p e s m args below meth c hc hr hnm hex htg
  refine fm_iload_n hc d_Si_tell_0 rfl rfl ?_
  refine fm_if_ne (tgt := 17) hc d_Si_tell_1 rfl (fun _ => ?_) (fun g => absurd g h0)
  refine fm_iload_n hc d_Si_tell_17 rfl rfl ?_
  refine fm_iconst (v := nI 1) hc d_Si_tell_18 rfl ?_
  refine fm_icmp_ne (tgt := 27) hc d_Si_tell_19 rfl (fun _ => ?_) (fun g => absurd g h1)
  refine fm_aload_n hc d_Si_tell_27 rfl rfl ?_
  refine fm_getI (k := 1) hc K_Si d_Si_tell_28 q_333 rfl (by omega) (by omega) (ly_Si hj) (by decide) (by decide) rfl ?_
  refine fm_if_eq (tgt := 45) hc d_Si_tell_31 rfl (fun _ => ?_) (fun g => absurd hu g)
  refine fm_iconst (v := (-1)) hc d_Si_tell_45 rfl ?_
  exact fm_iret hc hr d_Si_tell_46 (Nat.le_refl _) (Nat.le_refl _) ⟨rfl, rfl, rfl⟩
theorem t_tell_low {l : Launch} {b : Nat} {x : Nat → Nat} {D : va_G} {dA : Nat → ClassId} {j : Nat} {w : Int32} {n : Nat} {M : fm_M} (hn : 586 ≤ n) (hj : j < 4) (h0 : ¬ w = 0) (h1 : ¬ w = nI 1) (h2 : w < nI 2) (hu : ¬ M.1 (90 + 124 * j) 1 = 0) : Met l y_Si_tell (Cond.code y_Si_tell b_Si_tell 2 (some .int) :: fm_T0) ({ frames := 0, cells := 0, slots := 0, locals := 0 }) (fm_Pc fm_lay fm_nf fm_fk fm_cl b x D dA (fm_tys dA) (fm_EX b x) false [.ref (90 + 124 * j), .int w] n M) (fm_Qc fm_lay fm_nf fm_fk fm_cl b x D dA (fun r n' M' => r = some (.int ((-1))) ∧ n' = n ∧ M' = M)) 0 0 (fm_A b) := by
  refine fm_enter (by decide) (Nat.le_of_ble_eq_true rfl) ?_
  intro p e s m args below meth c hc hr hnm hex htg
  refine fm_iload_n hc d_Si_tell_0 rfl rfl ?_
  refine fm_if_ne (tgt := 17) hc d_Si_tell_1 rfl (fun _ => ?_) (fun g => absurd g h0)
  refine fm_iload_n hc d_Si_tell_17 rfl rfl ?_
  refine fm_iconst (v := nI 1) hc d_Si_tell_18 rfl ?_
  refine fm_icmp_ne (tgt := 27) hc d_Si_tell_19 rfl (fun _ => ?_) (fun g => absurd g h1)
  refine fm_aload_n hc d_Si_tell_27 rfl rfl ?_
  refine fm_getI (k := 1) hc K_Si d_Si_tell_28 q_333 rfl (by omega) (by omega) (ly_Si hj) (by decide) (by decide) rfl ?_
  refine fm_if_eq (tgt := 45) hc d_Si_tell_31 rfl (fun g => absurd g hu) (fun _ => ?_)
  refine fm_iload_n hc d_Si_tell_34 rfl rfl ?_
  refine fm_iconst (v := nI 2) hc d_Si_tell_35 rfl ?_
  refine fm_icmp_lt (tgt := 45) hc d_Si_tell_36 rfl (fun _ => ?_) (fun g => absurd h2 g)
  refine fm_iconst (v := (-1)) hc d_Si_tell_45 rfl ?_
  exact fm_iret hc hr d_Si_tell_46 (Nat.le_refl _) (Nat.le_refl _) ⟨rfl, rfl, rfl⟩
theorem t_tell_high {l : Launch} {b : Nat} {x : Nat → Nat} {D : va_G} {dA : Nat → ClassId} {j : Nat} {w : Int32} {n : Nat} {M : fm_M} (hn : 586 ≤ n) (hj : j < 4) (h0 : ¬ w = 0) (h1 : ¬ w = nI 1) (h2 : ¬ w < nI 2) (h3 : ¬ w < nI 18) (hu : ¬ M.1 (90 + 124 * j) 1 = 0) : Met l y_Si_tell (Cond.code y_Si_tell b_Si_tell 2 (some .int) :: fm_T0) ({ frames := 0, cells := 0, slots := 0, locals := 0 }) (fm_Pc fm_lay fm_nf fm_fk fm_cl b x D dA (fm_tys dA) (fm_EX b x) false [.ref (90 + 124 * j), .int w] n M) (fm_Qc fm_lay fm_nf fm_fk fm_cl b x D dA (fun r n' M' => r = some (.int ((-1))) ∧ n' = n ∧ M' = M)) 0 0 (fm_A b) := by
  refine fm_enter (by decide) (Nat.le_of_ble_eq_true rfl) ?_
  intro p e s m args below meth c hc hr hnm hex htg
  refine fm_iload_n hc d_Si_tell_0 rfl rfl ?_
  refine fm_if_ne (tgt := 17) hc d_Si_tell_1 rfl (fun _ => ?_) (fun g => absurd g h0)
  refine fm_iload_n hc d_Si_tell_17 rfl rfl ?_
  refine fm_iconst (v := nI 1) hc d_Si_tell_18 rfl ?_
  refine fm_icmp_ne (tgt := 27) hc d_Si_tell_19 rfl (fun _ => ?_) (fun g => absurd g h1)
  refine fm_aload_n hc d_Si_tell_27 rfl rfl ?_
  refine fm_getI (k := 1) hc K_Si d_Si_tell_28 q_333 rfl (by omega) (by omega) (ly_Si hj) (by decide) (by decide) rfl ?_
  refine fm_if_eq (tgt := 45) hc d_Si_tell_31 rfl (fun g => absurd g hu) (fun _ => ?_)
  refine fm_iload_n hc d_Si_tell_34 rfl rfl ?_
  refine fm_iconst (v := nI 2) hc d_Si_tell_35 rfl ?_
  refine fm_icmp_lt (tgt := 45) hc d_Si_tell_36 rfl (fun g => absurd g h2) (fun _ => ?_)
  refine fm_iload_n hc d_Si_tell_39 rfl rfl ?_
  refine fm_bipush (v := nI 18) hc d_Si_tell_40 rfl ?_
  refine fm_icmp_lt (tgt := 47) hc d_Si_tell_42 rfl (fun g => absurd g h3) (fun _ => ?_)
  refine fm_iconst (v := (-1)) hc d_Si_tell_45 rfl ?_
  exact fm_iret hc hr d_Si_tell_46 (Nat.le_refl _) (Nat.le_refl _) ⟨rfl, rfl, rfl⟩
theorem t_tell_note {l : Launch} {b : Nat} {x : Nat → Nat} {D : va_G} {dA : Nat → ClassId} {j i mm nt : Nat} {n : Nat} {M : fm_M} (hn : 586 ≤ n) (hj : j < 4) (hi : 2 ≤ i) (hi2 : i < 10) (hu : ¬ M.1 (90 + 124 * j) 1 = 0) (hm : M.2.2 (90 + 124 * j) 3 = some mm) (hm8 : 8 ≤ mm) (hmn : mm < n) (hml : (fm_lay mm).1 = 6) (ht : M.2.2 mm 3 = some nt) (ht8 : 8 ≤ nt) (htn : nt < n) (htl : fm_lay nt = (100, 8)) : Met l y_Si_tell (Cond.code y_Si_tell b_Si_tell 2 (some .int) :: fm_T0) ({ frames := 0, cells := 0, slots := 0, locals := 0 }) (fm_Pc fm_lay fm_nf fm_fk fm_cl b x D dA (fm_tys dA) (fm_EX b x) false [.ref (90 + 124 * j), .int (nI i)] n M) (fm_Qc fm_lay fm_nf fm_fk fm_cl b x D dA (fun r n' M' => r = some (.int (M.1 nt (i - 2))) ∧ n' = n ∧ M' = M)) 0 0 (fm_A b) := by
  refine fm_enter (by decide) (Nat.le_of_ble_eq_true rfl) ?_
  intro p e s m args below meth c hc hr hnm hex htg
  refine fm_iload_n hc d_Si_tell_0 rfl rfl ?_
  refine fm_if_ne (tgt := 17) hc d_Si_tell_1 rfl (fun _ => ?_) (fun g => absurd g (hnno (c := 0) (by omega) (by omega) (by omega)))
  refine fm_iload_n hc d_Si_tell_17 rfl rfl ?_
  refine fm_iconst (v := nI 1) hc d_Si_tell_18 rfl ?_
  refine fm_icmp_ne (tgt := 27) hc d_Si_tell_19 rfl (fun _ => ?_) (fun g => absurd g (hnno (by omega) (by omega) (by omega)))
  refine fm_aload_n hc d_Si_tell_27 rfl rfl ?_
  refine fm_getI (k := 1) hc K_Si d_Si_tell_28 q_333 rfl (by omega) (by omega) (ly_Si hj) (by decide) (by decide) rfl ?_
  refine fm_if_eq (tgt := 45) hc d_Si_tell_31 rfl (fun g => absurd g hu) (fun _ => ?_)
  refine fm_iload_n hc d_Si_tell_34 rfl rfl ?_
  refine fm_iconst (v := nI 2) hc d_Si_tell_35 rfl ?_
  refine fm_icmp_lt (tgt := 45) hc d_Si_tell_36 rfl (fun g => absurd g (hnlt (by omega) (by omega))) (fun _ => ?_)
  refine fm_iload_n hc d_Si_tell_39 rfl rfl ?_
  refine fm_bipush (v := nI 18) hc d_Si_tell_40 rfl ?_
  refine fm_icmp_lt (tgt := 47) hc d_Si_tell_42 rfl (fun _ => ?_) (fun g => absurd (nI_lt (by omega) (by omega)) g)
  refine fm_iload_n hc d_Si_tell_47 rfl rfl ?_
  refine fm_bipush (v := nI 10) hc d_Si_tell_48 rfl ?_
  refine fm_icmp_ge (tgt := 67) hc d_Si_tell_50 rfl (fun g => absurd g (hnle (a := 10) (c := i) (by omega) (by omega))) (fun _ => ?_)
  refine fm_aload_n hc d_Si_tell_53 rfl rfl ?_
  refine fm_getR (k := 3) (q := mm) hc K_Si d_Si_tell_54 q_337 rfl (by omega) (by omega) (ly_Si hj) (by decide) (by decide) rfl hm ?_
  refine fm_getR (k := 3) (q := nt) hc K_Me d_Si_tell_57 q_313 rfl hm8 hmn hml (by decide) (by decide) rfl ht ?_
  refine fm_iload_n hc d_Si_tell_60 rfl rfl ?_
  refine fm_iconst (v := nI 2) hc d_Si_tell_61 rfl ?_
  refine fm_isub hc d_Si_tell_62 ?_
  refine fm_top (congrArg Value.int (pk_sub (a := i) (b := 2) (by omega))) ?_
  refine fm_iald (j := i - 2) (len := 8) hc 0 d_Si_tell_63 ht8 htn htl rfl (by omega) (by decide) ?_
  refine fm_goto (tgt := 81) hc d_Si_tell_64 rfl ?_
  exact fm_iret hc hr d_Si_tell_81 (Nat.le_refl _) (Nat.le_refl _) ⟨rfl, rfl, rfl⟩
theorem t_tell_known {l : Launch} {b : Nat} {x : Nat → Nat} {D : va_G} {dA : Nat → ClassId} {j i mm kw : Nat} {n : Nat} {M : fm_M} (hn : 586 ≤ n) (hj : j < 4) (hi : 10 ≤ i) (hi2 : i < 18) (hu : ¬ M.1 (90 + 124 * j) 1 = 0) (hm : M.2.2 (90 + 124 * j) 3 = some mm) (hm8 : 8 ≤ mm) (hmn : mm < n) (hml : (fm_lay mm).1 = 6) (hw : M.2.2 mm 1 = some kw) (hw8 : 8 ≤ kw) (hwn : kw < n) (hwl : fm_lay kw = (100, 8)) : Met l y_Si_tell (Cond.code y_Si_tell b_Si_tell 2 (some .int) :: fm_T0) ({ frames := 0, cells := 0, slots := 0, locals := 0 }) (fm_Pc fm_lay fm_nf fm_fk fm_cl b x D dA (fm_tys dA) (fm_EX b x) false [.ref (90 + 124 * j), .int (nI i)] n M) (fm_Qc fm_lay fm_nf fm_fk fm_cl b x D dA (fun r n' M' => r = some (.int (M.1 kw (i - 10))) ∧ n' = n ∧ M' = M)) 0 0 (fm_A b) := by
  refine fm_enter (by decide) (Nat.le_of_ble_eq_true rfl) ?_
  intro p e s m args below meth c hc hr hnm hex htg
  refine fm_iload_n hc d_Si_tell_0 rfl rfl ?_
  refine fm_if_ne (tgt := 17) hc d_Si_tell_1 rfl (fun _ => ?_) (fun g => absurd g (hnno (c := 0) (by omega) (by omega) (by omega)))
  refine fm_iload_n hc d_Si_tell_17 rfl rfl ?_
  refine fm_iconst (v := nI 1) hc d_Si_tell_18 rfl ?_
  refine fm_icmp_ne (tgt := 27) hc d_Si_tell_19 rfl (fun _ => ?_) (fun g => absurd g (hnno (by omega) (by omega) (by omega)))
  refine fm_aload_n hc d_Si_tell_27 rfl rfl ?_
  refine fm_getI (k := 1) hc K_Si d_Si_tell_28 q_333 rfl (by omega) (by omega) (ly_Si hj) (by decide) (by decide) rfl ?_
  refine fm_if_eq (tgt := 45) hc d_Si_tell_31 rfl (fun g => absurd g hu) (fun _ => ?_)
  refine fm_iload_n hc d_Si_tell_34 rfl rfl ?_
  refine fm_iconst (v := nI 2) hc d_Si_tell_35 rfl ?_
  refine fm_icmp_lt (tgt := 45) hc d_Si_tell_36 rfl (fun g => absurd g (hnlt (by omega) (by omega))) (fun _ => ?_)
  refine fm_iload_n hc d_Si_tell_39 rfl rfl ?_
  refine fm_bipush (v := nI 18) hc d_Si_tell_40 rfl ?_
  refine fm_icmp_lt (tgt := 47) hc d_Si_tell_42 rfl (fun _ => ?_) (fun g => absurd (nI_lt (by omega) (by omega)) g)
  refine fm_iload_n hc d_Si_tell_47 rfl rfl ?_
  refine fm_bipush (v := nI 10) hc d_Si_tell_48 rfl ?_
  refine fm_icmp_ge (tgt := 67) hc d_Si_tell_50 rfl (fun _ => ?_) (fun g => absurd (nI_le (by omega) (by omega)) g)
  refine fm_aload_n hc d_Si_tell_67 rfl rfl ?_
  refine fm_getR (k := 3) (q := mm) hc K_Si d_Si_tell_68 q_337 rfl (by omega) (by omega) (ly_Si hj) (by decide) (by decide) rfl hm ?_
  refine fm_getR (k := 1) (q := kw) hc K_Me d_Si_tell_71 q_309 rfl hm8 hmn hml (by decide) (by decide) rfl hw ?_
  refine fm_iload_n hc d_Si_tell_74 rfl rfl ?_
  refine fm_iconst (v := nI 2) hc d_Si_tell_75 rfl ?_
  refine fm_isub hc d_Si_tell_76 ?_
  refine fm_top (congrArg Value.int (pk_sub (a := i) (b := 2) (by omega))) ?_
  refine fm_bipush (v := nI 8) hc d_Si_tell_77 rfl ?_
  refine fm_isub hc d_Si_tell_79 ?_
  refine fm_top (congrArg Value.int (pk_sub (a := i - 2) (b := 8) (by omega))) ?_
  refine fm_iald (j := (i - 2) - 8) (len := 8) hc 0 d_Si_tell_80 hw8 hwn hwl rfl (by omega) (by decide) ?_
  exact fm_iret hc hr d_Si_tell_81 (Nat.le_refl _) (Nat.le_refl _) ⟨rfl, rfl, rfl⟩
