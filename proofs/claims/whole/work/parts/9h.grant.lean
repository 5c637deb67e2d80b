/-! THE CLASS: Sayings.put, Memory.grant -/
def m_say (M : fm_M) (mm a sd : Nat) (v : Int32) : fm_M := fm_put1 (fm_put1 M (mm + 7) a ((M.1 (mm + 7) a) ||| ((nI 1) <<< ((nI sd) &&& 31)))) (mm + 8) (a * 16 + sd) v
theorem c_put {l : Launch} {b : Nat} {x : Nat → Nat} {D : va_G} {dA : Nat → ClassId} {mm a sd : Nat} {v : Int32}  {n : Nat} {M : fm_M} (hn : 586 ≤ n) (hM : fm_isM mm) (hP : fm_MP M mm) (ha : a < 8) (hs : sd < 16) : Met l y_Sy_put (Cond.code y_Sy_put b_Sy_put 4 none :: fm_T0) ({ frames := 1, cells := 0, slots := 0, locals := 20 }) (fm_Pc fm_lay fm_nf fm_fk fm_cl b x D dA (fm_tys dA) (fm_EX b x) false [.ref (mm + 6), .int (nI a), .int (nI sd), .int v] n M) (fm_Qc fm_lay fm_nf fm_fk fm_cl b x D dA (fun r n' M' => r = none ∧ n' = n ∧ M' = m_say M mm a sd v)) 0 0 (fm_A b) := by
  refine fm_enter (by decide) (Nat.le_of_ble_eq_true rfl) ?_
  intro p e s m args below meth c9 hc hr hnm hex htg
  have hlo := isM_lo hM
  refine fm_iload_n hc d_Sy_put_0 rfl rfl ?_
  refine fm_callSN (av := [.int (nI a)]) (rest := []) (y := y_An_isAgent) (bytes := b_An_isAgent) hc fm_T0_good (fm_EX_st b x) hex q_416 q_1 (nx_11 hex) q_415 pd_An_isAgent (c_An_isAgent_ok (in8_of ha)) ⟨rfl, rfl, Nat.le_of_ble_eq_true rfl, Nat.le_of_ble_eq_true rfl⟩ ⟨Nat.le_of_ble_eq_true rfl, Nat.le_of_ble_eq_true rfl⟩ d_Sy_put_1 (Nat.le_of_ble_eq_true rfl) (fun r n2 M2 hp => ?_)
  obtain ⟨rfl, hq1, hq2⟩ := hp
  replace hq1 := hq1.symm
  replace hq2 := hq2.symm
  subst hq1 hq2
  refine fm_cnt (z' := (0, 0)) rfl (fm_st (st' := [.int (nI 1)]) rfl ?_)
  refine fm_if_eq (tgt := 41) hc d_Sy_put_4 rfl (fun g => absurd g (by decide)) (fun _ => ?_)
  refine fm_iload_n hc d_Sy_put_7 rfl rfl ?_
  refine fm_if_lt (tgt := 41) hc d_Sy_put_8 rfl (fun g => absurd g (Int32.not_lt.mpr (nI_nonneg (by omega)))) (fun _ => ?_)
  refine fm_iload_n hc d_Sy_put_11 rfl rfl ?_
  refine fm_bipush (v := nI 16) hc d_Sy_put_12 rfl ?_
  refine fm_icmp_ge (tgt := 41) hc d_Sy_put_14 rfl (fun g => absurd g (hnle (a := 16) (c := sd) hs (by omega))) (fun _ => ?_)
  refine fm_aload_n hc d_Sy_put_17 rfl rfl ?_
  refine fm_getR (k := 0) (q := mm + 7) hc K_Sy d_Sy_put_18 q_150 rfl (by omega) (by omega) (congrArg Prod.fst (ly_M hM (k := 6) (by omega))) (by decide) (by decide) rfl hP.2.2.2.2.2.2.1 ?_
  refine fm_iload_n hc d_Sy_put_21 rfl rfl ?_
  refine fm_dup2_11 hc d_Sy_put_22 rfl rfl ?_
  refine fm_iald (j := a) (len := 8) hc 0 d_Sy_put_23 (by omega) (by omega) (ly_M hM (k := 7) (by omega)) rfl (by omega) (by decide) ?_
  refine fm_iconst (v := nI 1) hc d_Sy_put_24 rfl ?_
  refine fm_iload_n hc d_Sy_put_25 rfl rfl ?_
  refine fm_ishl hc d_Sy_put_26 ?_
  refine fm_ior hc d_Sy_put_27 ?_
  refine fm_iast (j := a) (len := 8) (v := (M.1 (mm + 7) a) ||| ((nI 1) <<< (nI sd &&& 31))) hc 0 d_Sy_put_28 (by omega) (by omega) (ly_M hM (k := 7) (by omega)) rfl (by omega) (by decide) ?_
  refine fm_aload_n hc d_Sy_put_29 rfl rfl ?_
  refine fm_getR (k := 1) (q := mm + 8) hc K_Sy d_Sy_put_30 q_151 rfl (by omega) (by omega) (congrArg Prod.fst (ly_M hM (k := 6) (by omega))) (by decide) (by decide) rfl hP.2.2.2.2.2.2.2.1 ?_
  refine fm_iload_n hc d_Sy_put_33 rfl rfl ?_
  refine fm_bipush (v := nI 16) hc d_Sy_put_34 rfl ?_
  refine fm_imul hc d_Sy_put_36 ?_
  refine fm_top (congrArg Value.int (pk_mul a 16)) ?_
  refine fm_iload_n hc d_Sy_put_37 rfl rfl ?_
  refine fm_iadd hc d_Sy_put_38 ?_
  refine fm_top (congrArg Value.int (nI_add (a * 16) sd)) ?_
  refine fm_iload_n hc d_Sy_put_39 rfl rfl ?_
  refine fm_iast (j := (a * 16) + sd) (len := 128) (v := v) hc 0 d_Sy_put_40 (by omega) (by omega) (ly_M hM (k := 8) (by omega)) rfl (by omega) (by decide) ?_
  exact fm_vret hc hr d_Sy_put_41 (Nat.le_refl _) (Nat.le_refl _) ⟨rfl, rfl, rfl⟩
theorem c_grant0 {l : Launch} {b : Nat} {x : Nat → Nat} {D : va_G} {dA : Nat → ClassId} {mm a : Nat} {v : Int32}  {n : Nat} {M : fm_M} (hn : 586 ≤ n) (hM : fm_isM mm) (hP : fm_MP M mm) (ha : a < 8) : Met l y_Me_grant (Cond.code y_Me_grant b_Me_grant 4 none :: fm_T0) ({ frames := 3, cells := 0, slots := 0, locals := 110 }) (fm_Pc fm_lay fm_nf fm_fk fm_cl b x D dA (fm_tys dA) (fm_EX b x) false [.ref mm, .int (nI a), .int (nI 0), .int v] n M) (fm_Qc fm_lay fm_nf fm_fk fm_cl b x D dA (fun r n' M' => r = none ∧ n' = n ∧ M' = M)) 0 0 (fm_A b) := by
  refine fm_enter (by decide) (Nat.le_of_ble_eq_true rfl) ?_
  intro p e s m args below meth c9 hc hr hnm hex htg
  have hlo := isM_lo hM
  refine fm_iload_n hc d_Me_grant_0 rfl rfl ?_
  refine fm_tableOut (tgt := 125) hc d_Me_grant_1 (by decide) rfl ?_
  exact fm_vret hc hr d_Me_grant_125 (Nat.le_refl _) (Nat.le_refl _) ⟨rfl, rfl, rfl⟩
theorem c_grant1 {l : Launch} {b : Nat} {x : Nat → Nat} {D : va_G} {dA : Nat → ClassId} {mm a sd : Nat} {v : Int32}  {n : Nat} {M : fm_M} (hn : 586 ≤ n) (hM : fm_isM mm) (hP : fm_MP M mm) (ha : a < 8) (hs : sd < 16) (hsd : M.1 (mm + (9 + 4 * a)) 5 = nI (sd + 1)) : Met l y_Me_grant (Cond.code y_Me_grant b_Me_grant 4 none :: fm_T0) ({ frames := 3, cells := 0, slots := 0, locals := 110 }) (fm_Pc fm_lay fm_nf fm_fk fm_cl b x D dA (fm_tys dA) (fm_EX b x) false [.ref mm, .int (nI a), .int (nI 1), .int v] n M) (fm_Qc fm_lay fm_nf fm_fk fm_cl b x D dA (fun r n' M' => r = none ∧ n' = n ∧ M' = m_say M mm a sd v)) 0 0 (fm_A b) := by
  refine fm_enter (by decide) (Nat.le_of_ble_eq_true rfl) ?_
  intro p e s m args below meth c9 hc hr hnm hex htg
  have hlo := isM_lo hM
  refine fm_iload_n hc d_Me_grant_0 rfl rfl ?_
  refine fm_tableIn (off := 35) (tgt := 36) hc d_Me_grant_1 (by decide) (by decide) rfl rfl ?_
  refine fm_aload_n hc d_Me_grant_36 rfl rfl ?_
  refine fm_getR (k := 5) (q := mm + 6) hc K_Me d_Me_grant_37 q_317 rfl (by omega) (by omega) (ly_M0 hM) (by decide) (by decide) rfl hP.2.2.2.2.2.1 ?_
  refine fm_iload_n hc d_Me_grant_40 rfl rfl ?_
  refine fm_aload_n hc d_Me_grant_41 rfl rfl ?_
  refine fm_getR (k := 4) (q := mm + 5) hc K_Me d_Me_grant_42 q_314 rfl (by omega) (by omega) (ly_M0 hM) (by decide) (by decide) rfl hP.2.2.2.2.1 ?_
  refine fm_iload_n hc d_Me_grant_45 rfl rfl ?_
  refine fm_aald (q := mm + (9 + 4 * a)) (j := a) (len := 8) hc 7 d_Me_grant_46 (by omega) (by omega) (ly_M hM (k := 5) (by omega)) (by decide) rfl (by omega) (by decide) (hP.2.2.2.2.2.2.2.2 a (show a < 8 by omega)).1 ?_
  refine fm_getI (k := 5) hc K_Tr d_Me_grant_47 q_197 rfl (by omega) (by omega) (ly_Mt hM (show a < 8 by omega)) (by decide) (by decide) rfl ?_
  refine fm_top (congrArg Value.int hsd) ?_
  refine fm_iconst (v := nI 1) hc d_Me_grant_50 rfl ?_
  refine fm_isub hc d_Me_grant_51 ?_
  refine fm_top (congrArg Value.int (pk_sub (a := sd + 1) (b := 1) (by omega))) ?_
  refine fm_top (congrArg Value.int (congrArg nI (Nat.add_sub_cancel sd 1))) ?_
  refine fm_iload_n hc d_Me_grant_52 rfl rfl ?_
  refine fm_callV (av := [.int (nI a), .int (nI sd), .int v]) (rest := []) (ob := mm + 6) (ci := 2) (r0 := ("AgentNet$Sayings", F_Sy, 2)) (y := y_Sy_put) (bytes := b_Sy_put) hc fm_T0_good (fm_EX_st b x) hex q_674 q_6 q_700 q_672 q_673 pd_Sy_put (by omega) (by omega) (congrArg Prod.fst (ly_M hM (k := 6) (by omega))) (by decide) rfl rfl (c_put hn hM hP ha hs) ⟨rfl, rfl, Nat.le_of_ble_eq_true rfl, Nat.le_of_ble_eq_true rfl⟩ ⟨Nat.le_of_ble_eq_true rfl, Nat.le_of_ble_eq_true rfl⟩ d_Me_grant_53 (Nat.le_of_ble_eq_true rfl) (fun r n2 M2 hp => ?_)
  obtain ⟨rfl, hq1, hq2⟩ := hp
  replace hq1 := hq1.symm
  replace hq2 := hq2.symm
  subst hq1 hq2
  refine fm_cnt (z' := (0, 0)) rfl (fm_st (st' := []) rfl ?_)
  refine fm_goto (tgt := 125) hc d_Me_grant_56 rfl ?_
  exact fm_vret hc hr d_Me_grant_125 (Nat.le_refl _) (Nat.le_refl _) ⟨rfl, rfl, rfl⟩
theorem c_grant2 {l : Launch} {b : Nat} {x : Nat → Nat} {D : va_G} {dA : Nat → ClassId} {mm a : Nat} {v : Int32}  {n : Nat} {M : fm_M} (hn : 586 ≤ n) (hM : fm_isM mm) (hP : fm_MP M mm) (ha : a < 8) : Met l y_Me_grant (Cond.code y_Me_grant b_Me_grant 4 none :: fm_T0) ({ frames := 3, cells := 0, slots := 0, locals := 110 }) (fm_Pc fm_lay fm_nf fm_fk fm_cl b x D dA (fm_tys dA) (fm_EX b x) false [.ref mm, .int (nI a), .int (nI 2), .int v] n M) (fm_Qc fm_lay fm_nf fm_fk fm_cl b x D dA (fun r n' M' => r = none ∧ n' = n ∧ M' = fm_put1 (fm_put1 M (mm + 1) a (nI 2)) (mm + 4) a v)) 0 0 (fm_A b) := by
  refine fm_enter (by decide) (Nat.le_of_ble_eq_true rfl) ?_
  intro p e s m args below meth c9 hc hr hnm hex htg
  have hlo := isM_lo hM
  refine fm_iload_n hc d_Me_grant_0 rfl rfl ?_
  refine fm_tableIn (off := 58) (tgt := 59) hc d_Me_grant_1 (by decide) (by decide) rfl rfl ?_
  refine fm_aload_n hc d_Me_grant_59 rfl rfl ?_
  refine fm_getR (k := 0) (q := mm + 1) hc K_Me d_Me_grant_60 q_305 rfl (by omega) (by omega) (ly_M0 hM) (by decide) (by decide) rfl hP.1 ?_
  refine fm_iload_n hc d_Me_grant_63 rfl rfl ?_
  refine fm_iconst (v := nI 2) hc d_Me_grant_64 rfl ?_
  refine fm_iast (j := a) (len := 8) (v := nI 2) hc 0 d_Me_grant_65 (by omega) (by omega) (ly_M hM (k := 1) (by omega)) rfl (by omega) (by decide) ?_
  refine fm_aload_n hc d_Me_grant_66 rfl rfl ?_
  refine fm_getR (k := 3) (q := mm + 4) hc K_Me d_Me_grant_67 q_312 rfl (by omega) (by omega) (ly_M0 hM) (by decide) (by decide) rfl hP.2.2.2.1 ?_
  refine fm_iload_n hc d_Me_grant_70 rfl rfl ?_
  refine fm_iload_n hc d_Me_grant_71 rfl rfl ?_
  refine fm_iast (j := a) (len := 8) (v := v) hc 0 d_Me_grant_72 (by omega) (by omega) (ly_M hM (k := 4) (by omega)) rfl (by omega) (by decide) ?_
  refine fm_goto (tgt := 125) hc d_Me_grant_73 rfl ?_
  exact fm_vret hc hr d_Me_grant_125 (Nat.le_refl _) (Nat.le_refl _) ⟨rfl, rfl, rfl⟩
theorem c_grant4 {l : Launch} {b : Nat} {x : Nat → Nat} {D : va_G} {dA : Nat → ClassId} {mm a : Nat} {v : Int32}  {n : Nat} {M : fm_M} (hn : 586 ≤ n) (hM : fm_isM mm) (hP : fm_MP M mm) (ha : a < 8) : Met l y_Me_grant (Cond.code y_Me_grant b_Me_grant 4 none :: fm_T0) ({ frames := 3, cells := 0, slots := 0, locals := 110 }) (fm_Pc fm_lay fm_nf fm_fk fm_cl b x D dA (fm_tys dA) (fm_EX b x) false [.ref mm, .int (nI a), .int (nI 4), .int v] n M) (fm_Qc fm_lay fm_nf fm_fk fm_cl b x D dA (fun r n' M' => r = none ∧ n' = n ∧ M' = fm_put1 M (mm + 1) a (nI 3))) 0 0 (fm_A b) := by
  refine fm_enter (by decide) (Nat.le_of_ble_eq_true rfl) ?_
  intro p e s m args below meth c9 hc hr hnm hex htg
  have hlo := isM_lo hM
  refine fm_iload_n hc d_Me_grant_0 rfl rfl ?_
  refine fm_tableIn (off := 104) (tgt := 105) hc d_Me_grant_1 (by decide) (by decide) rfl rfl ?_
  refine fm_aload_n hc d_Me_grant_105 rfl rfl ?_
  refine fm_getR (k := 0) (q := mm + 1) hc K_Me d_Me_grant_106 q_305 rfl (by omega) (by omega) (ly_M0 hM) (by decide) (by decide) rfl hP.1 ?_
  refine fm_iload_n hc d_Me_grant_109 rfl rfl ?_
  refine fm_iconst (v := nI 3) hc d_Me_grant_110 rfl ?_
  refine fm_iast (j := a) (len := 8) (v := nI 3) hc 0 d_Me_grant_111 (by omega) (by omega) (ly_M hM (k := 1) (by omega)) rfl (by omega) (by decide) ?_
  refine fm_goto (tgt := 125) hc d_Me_grant_112 rfl ?_
  exact fm_vret hc hr d_Me_grant_125 (Nat.le_refl _) (Nat.le_refl _) ⟨rfl, rfl, rfl⟩
theorem c_grant5 {l : Launch} {b : Nat} {x : Nat → Nat} {D : va_G} {dA : Nat → ClassId} {mm a : Nat} {v : Int32}  {n : Nat} {M : fm_M} (hn : 586 ≤ n) (hM : fm_isM mm) (hP : fm_MP M mm) (ha : a < 8) : Met l y_Me_grant (Cond.code y_Me_grant b_Me_grant 4 none :: fm_T0) ({ frames := 3, cells := 0, slots := 0, locals := 110 }) (fm_Pc fm_lay fm_nf fm_fk fm_cl b x D dA (fm_tys dA) (fm_EX b x) false [.ref mm, .int (nI a), .int (nI 5), .int v] n M) (fm_Qc fm_lay fm_nf fm_fk fm_cl b x D dA (fun r n' M' => r = none ∧ n' = n ∧ M' = fm_put1 M (mm + 1) a (nI 4))) 0 0 (fm_A b) := by
  refine fm_enter (by decide) (Nat.le_of_ble_eq_true rfl) ?_
  intro p e s m args below meth c9 hc hr hnm hex htg
  have hlo := isM_lo hM
  refine fm_iload_n hc d_Me_grant_0 rfl rfl ?_
  refine fm_tableIn (off := 114) (tgt := 115) hc d_Me_grant_1 (by decide) (by decide) rfl rfl ?_
  refine fm_aload_n hc d_Me_grant_115 rfl rfl ?_
  refine fm_getR (k := 0) (q := mm + 1) hc K_Me d_Me_grant_116 q_305 rfl (by omega) (by omega) (ly_M0 hM) (by decide) (by decide) rfl hP.1 ?_
  refine fm_iload_n hc d_Me_grant_119 rfl rfl ?_
  refine fm_iconst (v := nI 4) hc d_Me_grant_120 rfl ?_
  refine fm_iast (j := a) (len := 8) (v := nI 4) hc 0 d_Me_grant_121 (by omega) (by omega) (ly_M hM (k := 1) (by omega)) rfl (by omega) (by decide) ?_
  refine fm_goto (tgt := 125) hc d_Me_grant_122 rfl ?_
  exact fm_vret hc hr d_Me_grant_125 (Nat.le_refl _) (Nat.le_refl _) ⟨rfl, rfl, rfl⟩
