/-! THE PROCESSOR: doPlain and doPairs, case by case -/
theorem c_plain_0 {l : Launch} {b : Nat} {x : Nat → Nat} {D : va_G} {dA : Nat → ClassId} {tr tb he : Nat}   {n : Nat} {M : fm_M} (hn : 586 ≤ n) (t8 : 70 ≤ tr) (tn : tr < n) (t1n : tr + 1 < n) (t2n : tr + 2 < n) (t3n : tr + 3 < n) (tl : (fm_lay tr).1 = 5) (tl1 : fm_lay (tr + 1) = (110, 6)) (tl2 : fm_lay (tr + 2) = (110, 8)) (tl3 : fm_lay (tr + 3) = (110, 8)) (ht1 : M.2.2 tr 10 = some (tr + 1)) (ht2 : M.2.2 tr 11 = some (tr + 2)) (ht3 : M.2.2 tr 12 = some (tr + 3)) (hcd : M.1 60 1 = nI 0) : Met l y_Pr_doPlain (Cond.code y_Pr_doPlain b_Pr_doPlain 4 (some .int) :: fm_T0) ({ frames := 2, cells := 0, slots := 0, locals := 60 }) (fm_Pc fm_lay fm_nf fm_fk fm_cl b x D dA (fm_tys dA) (fm_EX b x) false [.ref 60, .ref tr, .ref tb, .int (nI he)] n M) (fm_Qc fm_lay fm_nf fm_fk fm_cl b x D dA (fun r n' M' => r = some (.int (nI 4)) ∧ n' = n ∧ M' = M)) 0 0 (fm_A b) := by
  refine fm_enter (by decide) (Nat.le_of_ble_eq_true rfl) ?_
  intro p e s m args below meth c9 hc hr hnm hex htg
  refine fm_aload_n hc d_Pr_doPlain_0 rfl rfl ?_
  refine fm_getI (k := 1) hc K_Pr d_Pr_doPlain_1 q_124 rfl (by decide) (by omega) (by decide) (by decide) (by decide) rfl ?_
  refine fm_top (congrArg Value.int hcd) ?_
  refine fm_tableIn (off := 72) (tgt := 76) hc d_Pr_doPlain_4 (by decide) (by decide) rfl rfl ?_
  refine fm_iconst (v := nI 4) hc d_Pr_doPlain_76 rfl ?_
  exact fm_iret hc hr d_Pr_doPlain_77 (Nat.le_refl _) (Nat.le_refl _) ⟨rfl, rfl, rfl⟩
theorem c_plain_6 {l : Launch} {b : Nat} {x : Nat → Nat} {D : va_G} {dA : Nat → ClassId} {tr tb he : Nat}   {n : Nat} {M : fm_M} (hn : 586 ≤ n) (t8 : 70 ≤ tr) (tn : tr < n) (t1n : tr + 1 < n) (t2n : tr + 2 < n) (t3n : tr + 3 < n) (tl : (fm_lay tr).1 = 5) (tl1 : fm_lay (tr + 1) = (110, 6)) (tl2 : fm_lay (tr + 2) = (110, 8)) (tl3 : fm_lay (tr + 3) = (110, 8)) (ht1 : M.2.2 tr 10 = some (tr + 1)) (ht2 : M.2.2 tr 11 = some (tr + 2)) (ht3 : M.2.2 tr 12 = some (tr + 3)) (hcd : M.1 60 1 = nI 6) : Met l y_Pr_doPlain (Cond.code y_Pr_doPlain b_Pr_doPlain 4 (some .int) :: fm_T0) ({ frames := 2, cells := 0, slots := 0, locals := 60 }) (fm_Pc fm_lay fm_nf fm_fk fm_cl b x D dA (fm_tys dA) (fm_EX b x) false [.ref 60, .ref tr, .ref tb, .int (nI he)] n M) (fm_Qc fm_lay fm_nf fm_fk fm_cl b x D dA (fun r n' M' => r = some (.int (nI 0)) ∧ n' = n ∧ M' = M)) 0 0 (fm_A b) := by
  refine fm_enter (by decide) (Nat.le_of_ble_eq_true rfl) ?_
  intro p e s m args below meth c9 hc hr hnm hex htg
  refine fm_aload_n hc d_Pr_doPlain_0 rfl rfl ?_
  refine fm_getI (k := 1) hc K_Pr d_Pr_doPlain_1 q_124 rfl (by decide) (by omega) (by decide) (by decide) (by decide) rfl ?_
  refine fm_top (congrArg Value.int hcd) ?_
  refine fm_tableIn (off := 250) (tgt := 254) hc d_Pr_doPlain_4 (by decide) (by decide) rfl rfl ?_
  refine fm_iconst (v := nI 0) hc d_Pr_doPlain_254 rfl ?_
  exact fm_iret hc hr d_Pr_doPlain_255 (Nat.le_refl _) (Nat.le_refl _) ⟨rfl, rfl, rfl⟩
theorem c_plain_1 {l : Launch} {b : Nat} {x : Nat → Nat} {D : va_G} {dA : Nat → ClassId} {tr tb he y d : Nat}   {n : Nat} {M : fm_M} (hn : 586 ≤ n) (t8 : 70 ≤ tr) (tn : tr < n) (t1n : tr + 1 < n) (t2n : tr + 2 < n) (t3n : tr + 3 < n) (tl : (fm_lay tr).1 = 5) (tl1 : fm_lay (tr + 1) = (110, 6)) (tl2 : fm_lay (tr + 2) = (110, 8)) (tl3 : fm_lay (tr + 3) = (110, 8)) (ht1 : M.2.2 tr 10 = some (tr + 1)) (ht2 : M.2.2 tr 11 = some (tr + 2)) (ht3 : M.2.2 tr 12 = some (tr + 3)) (hcd : M.1 60 1 = nI 1) (hy : M.1 60 2 = nI y) (hd : M.1 tr 8 = nI d) (hd6 : d < 6) : Met l y_Pr_doPlain (Cond.code y_Pr_doPlain b_Pr_doPlain 4 (some .int) :: fm_T0) ({ frames := 2, cells := 0, slots := 0, locals := 60 }) (fm_Pc fm_lay fm_nf fm_fk fm_cl b x D dA (fm_tys dA) (fm_EX b x) false [.ref 60, .ref tr, .ref tb, .int (nI he)] n M) (fm_Qc fm_lay fm_nf fm_fk fm_cl b x D dA (fun r n' M' => r = some (.int (nI 0)) ∧ n' = n ∧ M' = fm_put1 (fm_put2 (M) (tr + 1) d ((nI y).toInt8.toInt32.toInt64)) tr 8 (nI (d + 1)))) 0 0 (fm_A b) := by
  refine fm_enter (by decide) (Nat.le_of_ble_eq_true rfl) ?_
  intro p e s m args below meth c9 hc hr hnm hex htg
  refine fm_aload_n hc d_Pr_doPlain_0 rfl rfl ?_
  refine fm_getI (k := 1) hc K_Pr d_Pr_doPlain_1 q_124 rfl (by decide) (by omega) (by decide) (by decide) (by decide) rfl ?_
  refine fm_top (congrArg Value.int hcd) ?_
  refine fm_tableIn (off := 74) (tgt := 78) hc d_Pr_doPlain_4 (by decide) (by decide) rfl rfl ?_
  refine fm_aload_n hc d_Pr_doPlain_78 rfl rfl ?_
  refine fm_aload_n hc d_Pr_doPlain_79 rfl rfl ?_
  refine fm_getI (k := 2) hc K_Pr d_Pr_doPlain_80 q_125 rfl (by decide) (by omega) (by decide) (by decide) (by decide) rfl ?_
  refine fm_top (congrArg Value.int hy) ?_
  refine fm_i2b hc d_Pr_doPlain_83 ?_
  refine fm_i2l hc d_Pr_doPlain_84 ?_
  refine fm_callV (av := [.long (((nI y).toInt8.toInt32).toInt64)]) (rest := []) (ob := tr) (ci := 5) (r0 := ("AgentNet$Traveller", F_Tr, 13)) (y := y_Tr_push) (bytes := b_Tr_push) hc fm_T0_good (fm_EX_st b x) hex q_640 q_8 q_641 q_638 q_639 pd_Tr_push (by omega) tn tl (by decide) rfl rfl (c_push (M := M) (d := d) (by omega) tn t1n tl tl1 ht1 hd hd6) ⟨rfl, rfl, Nat.le_of_ble_eq_true rfl, Nat.le_of_ble_eq_true rfl⟩ ⟨Nat.le_of_ble_eq_true rfl, Nat.le_of_ble_eq_true rfl⟩ d_Pr_doPlain_85 (Nat.le_of_ble_eq_true rfl) (fun r n2 M2 hp => ?_)
  obtain ⟨rfl, hq1, hq2⟩ := hp
  replace hq1 := hq1.symm
  replace hq2 := hq2.symm
  subst hq1 hq2
  refine fm_cnt (z' := (0, 0)) rfl (fm_st (st' := []) rfl ?_)
  refine fm_goto (tgt := 254) hc d_Pr_doPlain_88 rfl ?_
  refine fm_iconst (v := nI 0) hc d_Pr_doPlain_254 rfl ?_
  exact fm_iret hc hr d_Pr_doPlain_255 (Nat.le_refl _) (Nat.le_refl _) ⟨rfl, rfl, rfl⟩
theorem c_plain_2 {l : Launch} {b : Nat} {x : Nat → Nat} {D : va_G} {dA : Nat → ClassId} {tr tb he d : Nat} {v a : Int32}  {n : Nat} {M : fm_M} (hn : 586 ≤ n) (t8 : 70 ≤ tr) (tn : tr < n) (t1n : tr + 1 < n) (t2n : tr + 2 < n) (t3n : tr + 3 < n) (tl : (fm_lay tr).1 = 5) (tl1 : fm_lay (tr + 1) = (110, 6)) (tl2 : fm_lay (tr + 2) = (110, 8)) (tl3 : fm_lay (tr + 3) = (110, 8)) (ht1 : M.2.2 tr 10 = some (tr + 1)) (ht2 : M.2.2 tr 11 = some (tr + 2)) (ht3 : M.2.2 tr 12 = some (tr + 3)) (hcd : M.1 60 1 = nI 2) (hlw : M.2.1 60 3 = a.toInt64) (hu : M.2.1 60 4 = v.toInt64) (hd : M.1 tr 8 = nI d) (hd6 : d < 6) : Met l y_Pr_doPlain (Cond.code y_Pr_doPlain b_Pr_doPlain 4 (some .int) :: fm_T0) ({ frames := 2, cells := 0, slots := 0, locals := 60 }) (fm_Pc fm_lay fm_nf fm_fk fm_cl b x D dA (fm_tys dA) (fm_EX b x) false [.ref 60, .ref tr, .ref tb, .int (nI he)] n M) (fm_Qc fm_lay fm_nf fm_fk fm_cl b x D dA (fun r n' M' => r = some (.int (nI 0)) ∧ n' = n ∧ M' = fm_put1 (fm_put2 (M) (tr + 1) d ((a + v).toInt64)) tr 8 (nI (d + 1)))) 0 0 (fm_A b) := by
  refine fm_enter (by decide) (Nat.le_of_ble_eq_true rfl) ?_
  intro p e s m args below meth c9 hc hr hnm hex htg
  refine fm_aload_n hc d_Pr_doPlain_0 rfl rfl ?_
  refine fm_getI (k := 1) hc K_Pr d_Pr_doPlain_1 q_124 rfl (by decide) (by omega) (by decide) (by decide) (by decide) rfl ?_
  refine fm_top (congrArg Value.int hcd) ?_
  refine fm_tableIn (off := 87) (tgt := 91) hc d_Pr_doPlain_4 (by decide) (by decide) rfl rfl ?_
  refine fm_aload_n hc d_Pr_doPlain_91 rfl rfl ?_
  refine fm_aload_n hc d_Pr_doPlain_92 rfl rfl ?_
  refine fm_getL (k := 3) hc K_Pr d_Pr_doPlain_93 q_126 rfl (by decide) (by omega) (by decide) (by decide) (by decide) rfl ?_
  refine fm_top (congrArg Value.long hlw) ?_
  refine fm_l2i hc d_Pr_doPlain_96 ?_
  refine fm_top (congrArg Value.int (vx_low a)) ?_
  refine fm_aload_n hc d_Pr_doPlain_97 rfl rfl ?_
  refine fm_getL (k := 4) hc K_Pr d_Pr_doPlain_98 q_127 rfl (by decide) (by omega) (by decide) (by decide) (by decide) rfl ?_
  refine fm_top (congrArg Value.long hu) ?_
  refine fm_l2i hc d_Pr_doPlain_101 ?_
  refine fm_top (congrArg Value.int (vx_low v)) ?_
  refine fm_iadd hc d_Pr_doPlain_102 ?_
  refine fm_i2l hc d_Pr_doPlain_103 ?_
  refine fm_callV (av := [.long ((a + v).toInt64)]) (rest := []) (ob := tr) (ci := 5) (r0 := ("AgentNet$Traveller", F_Tr, 13)) (y := y_Tr_push) (bytes := b_Tr_push) hc fm_T0_good (fm_EX_st b x) hex q_640 q_8 q_641 q_638 q_639 pd_Tr_push (by omega) tn tl (by decide) rfl rfl (c_push (M := M) (d := d) (by omega) tn t1n tl tl1 ht1 hd hd6) ⟨rfl, rfl, Nat.le_of_ble_eq_true rfl, Nat.le_of_ble_eq_true rfl⟩ ⟨Nat.le_of_ble_eq_true rfl, Nat.le_of_ble_eq_true rfl⟩ d_Pr_doPlain_104 (Nat.le_of_ble_eq_true rfl) (fun r n2 M2 hp => ?_)
  obtain ⟨rfl, hq1, hq2⟩ := hp
  replace hq1 := hq1.symm
  replace hq2 := hq2.symm
  subst hq1 hq2
  refine fm_cnt (z' := (0, 0)) rfl (fm_st (st' := []) rfl ?_)
  refine fm_goto (tgt := 254) hc d_Pr_doPlain_107 rfl ?_
  refine fm_iconst (v := nI 0) hc d_Pr_doPlain_254 rfl ?_
  exact fm_iret hc hr d_Pr_doPlain_255 (Nat.le_refl _) (Nat.le_refl _) ⟨rfl, rfl, rfl⟩
theorem c_plain_3 {l : Launch} {b : Nat} {x : Nat → Nat} {D : va_G} {dA : Nat → ClassId} {tr tb he d : Nat} {v a : Int32}  {n : Nat} {M : fm_M} (hn : 586 ≤ n) (t8 : 70 ≤ tr) (tn : tr < n) (t1n : tr + 1 < n) (t2n : tr + 2 < n) (t3n : tr + 3 < n) (tl : (fm_lay tr).1 = 5) (tl1 : fm_lay (tr + 1) = (110, 6)) (tl2 : fm_lay (tr + 2) = (110, 8)) (tl3 : fm_lay (tr + 3) = (110, 8)) (ht1 : M.2.2 tr 10 = some (tr + 1)) (ht2 : M.2.2 tr 11 = some (tr + 2)) (ht3 : M.2.2 tr 12 = some (tr + 3)) (hcd : M.1 60 1 = nI 3) (hlw : M.2.1 60 3 = a.toInt64) (hu : M.2.1 60 4 = v.toInt64) (hd : M.1 tr 8 = nI d) (hd6 : d < 6) : Met l y_Pr_doPlain (Cond.code y_Pr_doPlain b_Pr_doPlain 4 (some .int) :: fm_T0) ({ frames := 2, cells := 0, slots := 0, locals := 60 }) (fm_Pc fm_lay fm_nf fm_fk fm_cl b x D dA (fm_tys dA) (fm_EX b x) false [.ref 60, .ref tr, .ref tb, .int (nI he)] n M) (fm_Qc fm_lay fm_nf fm_fk fm_cl b x D dA (fun r n' M' => r = some (.int (nI 0)) ∧ n' = n ∧ M' = fm_put1 (fm_put2 (M) (tr + 1) d ((a - v).toInt64)) tr 8 (nI (d + 1)))) 0 0 (fm_A b) := by
  refine fm_enter (by decide) (Nat.le_of_ble_eq_true rfl) ?_
  intro p e s m args below meth c9 hc hr hnm hex htg
  refine fm_aload_n hc d_Pr_doPlain_0 rfl rfl ?_
  refine fm_getI (k := 1) hc K_Pr d_Pr_doPlain_1 q_124 rfl (by decide) (by omega) (by decide) (by decide) (by decide) rfl ?_
  refine fm_top (congrArg Value.int hcd) ?_
  refine fm_tableIn (off := 106) (tgt := 110) hc d_Pr_doPlain_4 (by decide) (by decide) rfl rfl ?_
  refine fm_aload_n hc d_Pr_doPlain_110 rfl rfl ?_
  refine fm_aload_n hc d_Pr_doPlain_111 rfl rfl ?_
  refine fm_getL (k := 3) hc K_Pr d_Pr_doPlain_112 q_126 rfl (by decide) (by omega) (by decide) (by decide) (by decide) rfl ?_
  refine fm_top (congrArg Value.long hlw) ?_
  refine fm_l2i hc d_Pr_doPlain_115 ?_
  refine fm_top (congrArg Value.int (vx_low a)) ?_
  refine fm_aload_n hc d_Pr_doPlain_116 rfl rfl ?_
  refine fm_getL (k := 4) hc K_Pr d_Pr_doPlain_117 q_127 rfl (by decide) (by omega) (by decide) (by decide) (by decide) rfl ?_
  refine fm_top (congrArg Value.long hu) ?_
  refine fm_l2i hc d_Pr_doPlain_120 ?_
  refine fm_top (congrArg Value.int (vx_low v)) ?_
  refine fm_isub hc d_Pr_doPlain_121 ?_
  refine fm_i2l hc d_Pr_doPlain_122 ?_
  refine fm_callV (av := [.long ((a - v).toInt64)]) (rest := []) (ob := tr) (ci := 5) (r0 := ("AgentNet$Traveller", F_Tr, 13)) (y := y_Tr_push) (bytes := b_Tr_push) hc fm_T0_good (fm_EX_st b x) hex q_640 q_8 q_641 q_638 q_639 pd_Tr_push (by omega) tn tl (by decide) rfl rfl (c_push (M := M) (d := d) (by omega) tn t1n tl tl1 ht1 hd hd6) ⟨rfl, rfl, Nat.le_of_ble_eq_true rfl, Nat.le_of_ble_eq_true rfl⟩ ⟨Nat.le_of_ble_eq_true rfl, Nat.le_of_ble_eq_true rfl⟩ d_Pr_doPlain_123 (Nat.le_of_ble_eq_true rfl) (fun r n2 M2 hp => ?_)
  obtain ⟨rfl, hq1, hq2⟩ := hp
  replace hq1 := hq1.symm
  replace hq2 := hq2.symm
  subst hq1 hq2
  refine fm_cnt (z' := (0, 0)) rfl (fm_st (st' := []) rfl ?_)
  refine fm_goto (tgt := 254) hc d_Pr_doPlain_126 rfl ?_
  refine fm_iconst (v := nI 0) hc d_Pr_doPlain_254 rfl ?_
  exact fm_iret hc hr d_Pr_doPlain_255 (Nat.le_refl _) (Nat.le_refl _) ⟨rfl, rfl, rfl⟩
theorem c_plain_4 {l : Launch} {b : Nat} {x : Nat → Nat} {D : va_G} {dA : Nat → ClassId} {tr tb he d : Nat} {v a : Int32}  {n : Nat} {M : fm_M} (hn : 586 ≤ n) (t8 : 70 ≤ tr) (tn : tr < n) (t1n : tr + 1 < n) (t2n : tr + 2 < n) (t3n : tr + 3 < n) (tl : (fm_lay tr).1 = 5) (tl1 : fm_lay (tr + 1) = (110, 6)) (tl2 : fm_lay (tr + 2) = (110, 8)) (tl3 : fm_lay (tr + 3) = (110, 8)) (ht1 : M.2.2 tr 10 = some (tr + 1)) (ht2 : M.2.2 tr 11 = some (tr + 2)) (ht3 : M.2.2 tr 12 = some (tr + 3)) (hcd : M.1 60 1 = nI 4) (hlw : M.2.1 60 3 = a.toInt64) (hu : M.2.1 60 4 = v.toInt64) (hd : M.1 tr 8 = nI d) (hd6 : d < 6) : Met l y_Pr_doPlain (Cond.code y_Pr_doPlain b_Pr_doPlain 4 (some .int) :: fm_T0) ({ frames := 2, cells := 0, slots := 0, locals := 60 }) (fm_Pc fm_lay fm_nf fm_fk fm_cl b x D dA (fm_tys dA) (fm_EX b x) false [.ref 60, .ref tr, .ref tb, .int (nI he)] n M) (fm_Qc fm_lay fm_nf fm_fk fm_cl b x D dA (fun r n' M' => r = some (.int (nI 0)) ∧ n' = n ∧ M' = fm_put1 (fm_put2 (M) (tr + 1) d ((a * v).toInt64)) tr 8 (nI (d + 1)))) 0 0 (fm_A b) := by
  refine fm_enter (by decide) (Nat.le_of_ble_eq_true rfl) ?_
  intro p e s m args below meth c9 hc hr hnm hex htg
  refine fm_aload_n hc d_Pr_doPlain_0 rfl rfl ?_
  refine fm_getI (k := 1) hc K_Pr d_Pr_doPlain_1 q_124 rfl (by decide) (by omega) (by decide) (by decide) (by decide) rfl ?_
  refine fm_top (congrArg Value.int hcd) ?_
  refine fm_tableIn (off := 125) (tgt := 129) hc d_Pr_doPlain_4 (by decide) (by decide) rfl rfl ?_
  refine fm_aload_n hc d_Pr_doPlain_129 rfl rfl ?_
  refine fm_aload_n hc d_Pr_doPlain_130 rfl rfl ?_
  refine fm_getL (k := 3) hc K_Pr d_Pr_doPlain_131 q_126 rfl (by decide) (by omega) (by decide) (by decide) (by decide) rfl ?_
  refine fm_top (congrArg Value.long hlw) ?_
  refine fm_l2i hc d_Pr_doPlain_134 ?_
  refine fm_top (congrArg Value.int (vx_low a)) ?_
  refine fm_aload_n hc d_Pr_doPlain_135 rfl rfl ?_
  refine fm_getL (k := 4) hc K_Pr d_Pr_doPlain_136 q_127 rfl (by decide) (by omega) (by decide) (by decide) (by decide) rfl ?_
  refine fm_top (congrArg Value.long hu) ?_
  refine fm_l2i hc d_Pr_doPlain_139 ?_
  refine fm_top (congrArg Value.int (vx_low v)) ?_
  refine fm_imul hc d_Pr_doPlain_140 ?_
  refine fm_i2l hc d_Pr_doPlain_141 ?_
  refine fm_callV (av := [.long ((a * v).toInt64)]) (rest := []) (ob := tr) (ci := 5) (r0 := ("AgentNet$Traveller", F_Tr, 13)) (y := y_Tr_push) (bytes := b_Tr_push) hc fm_T0_good (fm_EX_st b x) hex q_640 q_8 q_641 q_638 q_639 pd_Tr_push (by omega) tn tl (by decide) rfl rfl (c_push (M := M) (d := d) (by omega) tn t1n tl tl1 ht1 hd hd6) ⟨rfl, rfl, Nat.le_of_ble_eq_true rfl, Nat.le_of_ble_eq_true rfl⟩ ⟨Nat.le_of_ble_eq_true rfl, Nat.le_of_ble_eq_true rfl⟩ d_Pr_doPlain_142 (Nat.le_of_ble_eq_true rfl) (fun r n2 M2 hp => ?_)
  obtain ⟨rfl, hq1, hq2⟩ := hp
  replace hq1 := hq1.symm
  replace hq2 := hq2.symm
  subst hq1 hq2
  refine fm_cnt (z' := (0, 0)) rfl (fm_st (st' := []) rfl ?_)
  refine fm_goto (tgt := 254) hc d_Pr_doPlain_145 rfl ?_
  refine fm_iconst (v := nI 0) hc d_Pr_doPlain_254 rfl ?_
  exact fm_iret hc hr d_Pr_doPlain_255 (Nat.le_refl _) (Nat.le_refl _) ⟨rfl, rfl, rfl⟩
theorem c_plain_5 {l : Launch} {b : Nat} {x : Nat → Nat} {D : va_G} {dA : Nat → ClassId} {tr tb he y d : Nat}  {u64 : Int64} {n : Nat} {M : fm_M} (hn : 586 ≤ n) (t8 : 70 ≤ tr) (tn : tr < n) (t1n : tr + 1 < n) (t2n : tr + 2 < n) (t3n : tr + 3 < n) (tl : (fm_lay tr).1 = 5) (tl1 : fm_lay (tr + 1) = (110, 6)) (tl2 : fm_lay (tr + 2) = (110, 8)) (tl3 : fm_lay (tr + 3) = (110, 8)) (ht1 : M.2.2 tr 10 = some (tr + 1)) (ht2 : M.2.2 tr 11 = some (tr + 2)) (ht3 : M.2.2 tr 12 = some (tr + 3)) (hcd : M.1 60 1 = nI 5) (hy : M.1 60 2 = nI y) (hd : M.1 tr 8 = nI d) (hd6 : d < 6) (h1 : y < d) (hv : M.2.1 (tr + 1) (d - 1 - y) = u64) : Met l y_Pr_doPlain (Cond.code y_Pr_doPlain b_Pr_doPlain 4 (some .int) :: fm_T0) ({ frames := 2, cells := 0, slots := 0, locals := 60 }) (fm_Pc fm_lay fm_nf fm_fk fm_cl b x D dA (fm_tys dA) (fm_EX b x) false [.ref 60, .ref tr, .ref tb, .int (nI he)] n M) (fm_Qc fm_lay fm_nf fm_fk fm_cl b x D dA (fun r n' M' => r = some (.int (nI 0)) ∧ n' = n ∧ M' = fm_put1 (fm_put2 (M) (tr + 1) d u64) tr 8 (nI (d + 1)))) 0 0 (fm_A b) := by
  refine fm_enter (by decide) (Nat.le_of_ble_eq_true rfl) ?_
  intro p e s m args below meth c9 hc hr hnm hex htg
  refine fm_aload_n hc d_Pr_doPlain_0 rfl rfl ?_
  refine fm_getI (k := 1) hc K_Pr d_Pr_doPlain_1 q_124 rfl (by decide) (by omega) (by decide) (by decide) (by decide) rfl ?_
  refine fm_top (congrArg Value.int hcd) ?_
  refine fm_tableIn (off := 144) (tgt := 148) hc d_Pr_doPlain_4 (by decide) (by decide) rfl rfl ?_
  refine fm_aload_n hc d_Pr_doPlain_148 rfl rfl ?_
  refine fm_aload_n hc d_Pr_doPlain_149 rfl rfl ?_
  refine fm_getR (k := 10) (q := tr + 1) hc K_Tr d_Pr_doPlain_150 q_218 rfl (by omega) tn tl (by decide) (by decide) rfl ht1 ?_
  refine fm_aload_n hc d_Pr_doPlain_153 rfl rfl ?_
  refine fm_getI (k := 8) hc K_Tr d_Pr_doPlain_154 q_210 rfl (by omega) tn tl (by decide) (by decide) rfl ?_
  refine fm_top (congrArg Value.int hd) ?_
  refine fm_iconst (v := nI 1) hc d_Pr_doPlain_157 rfl ?_
  refine fm_isub hc d_Pr_doPlain_158 ?_
  refine fm_top (congrArg Value.int (pk_sub (a := d) (b := 1) (by omega))) ?_
  refine fm_aload_n hc d_Pr_doPlain_159 rfl rfl ?_
  refine fm_getI (k := 2) hc K_Pr d_Pr_doPlain_160 q_125 rfl (by decide) (by omega) (by decide) (by decide) (by decide) rfl ?_
  refine fm_top (congrArg Value.int hy) ?_
  refine fm_isub hc d_Pr_doPlain_163 ?_
  refine fm_top (congrArg Value.int (pk_sub (a := d - 1) (b := y) (by omega))) ?_
  refine fm_lald (j := (d - 1) - y) (len := 6) hc 3 d_Pr_doPlain_164 (by omega) t1n tl1 rfl (by omega) (by decide) ?_
  refine fm_top (congrArg Value.long hv) ?_
  refine fm_callV (av := [.long u64]) (rest := []) (ob := tr) (ci := 5) (r0 := ("AgentNet$Traveller", F_Tr, 13)) (y := y_Tr_push) (bytes := b_Tr_push) hc fm_T0_good (fm_EX_st b x) hex q_640 q_8 q_641 q_638 q_639 pd_Tr_push (by omega) tn tl (by decide) rfl rfl (c_push (M := M) (d := d) (by omega) tn t1n tl tl1 ht1 hd hd6) ⟨rfl, rfl, Nat.le_of_ble_eq_true rfl, Nat.le_of_ble_eq_true rfl⟩ ⟨Nat.le_of_ble_eq_true rfl, Nat.le_of_ble_eq_true rfl⟩ d_Pr_doPlain_165 (Nat.le_of_ble_eq_true rfl) (fun r n2 M2 hp => ?_)
  obtain ⟨rfl, hq1, hq2⟩ := hp
  replace hq1 := hq1.symm
  replace hq2 := hq2.symm
  subst hq1 hq2
  refine fm_cnt (z' := (0, 0)) rfl (fm_st (st' := []) rfl ?_)
  refine fm_goto (tgt := 254) hc d_Pr_doPlain_168 rfl ?_
  refine fm_iconst (v := nI 0) hc d_Pr_doPlain_254 rfl ?_
  exact fm_iret hc hr d_Pr_doPlain_255 (Nat.le_refl _) (Nat.le_refl _) ⟨rfl, rfl, rfl⟩
theorem c_plain_7 {l : Launch} {b : Nat} {x : Nat → Nat} {D : va_G} {dA : Nat → ClassId} {tr tb he y d : Nat}   {n : Nat} {M : fm_M} (hn : 586 ≤ n) (t8 : 70 ≤ tr) (tn : tr < n) (t1n : tr + 1 < n) (t2n : tr + 2 < n) (t3n : tr + 3 < n) (tl : (fm_lay tr).1 = 5) (tl1 : fm_lay (tr + 1) = (110, 6)) (tl2 : fm_lay (tr + 2) = (110, 8)) (tl3 : fm_lay (tr + 3) = (110, 8)) (ht1 : M.2.2 tr 10 = some (tr + 1)) (ht2 : M.2.2 tr 11 = some (tr + 2)) (ht3 : M.2.2 tr 12 = some (tr + 3)) (hcd : M.1 60 1 = nI 7) (hy : M.1 60 2 = nI y) (hd : M.1 tr 8 = nI d) (hd6 : d < 6) (h1 : y < 8) (b8 : 8 ≤ tb) (bn : tb < n) (bl : fm_lay tb = (100, 8)) : Met l y_Pr_doPlain (Cond.code y_Pr_doPlain b_Pr_doPlain 4 (some .int) :: fm_T0) ({ frames := 2, cells := 0, slots := 0, locals := 60 }) (fm_Pc fm_lay fm_nf fm_fk fm_cl b x D dA (fm_tys dA) (fm_EX b x) false [.ref 60, .ref tr, .ref tb, .int (nI he)] n M) (fm_Qc fm_lay fm_nf fm_fk fm_cl b x D dA (fun r n' M' => r = some (.int (nI 0)) ∧ n' = n ∧ M' = fm_put1 (fm_put2 (M) (tr + 1) d ((M.1 tb y).toInt64)) tr 8 (nI (d + 1)))) 0 0 (fm_A b) := by
  refine fm_enter (by decide) (Nat.le_of_ble_eq_true rfl) ?_
  intro p e s m args below meth c9 hc hr hnm hex htg
  refine fm_aload_n hc d_Pr_doPlain_0 rfl rfl ?_
  refine fm_getI (k := 1) hc K_Pr d_Pr_doPlain_1 q_124 rfl (by decide) (by omega) (by decide) (by decide) (by decide) rfl ?_
  refine fm_top (congrArg Value.int hcd) ?_
  refine fm_tableIn (off := 167) (tgt := 171) hc d_Pr_doPlain_4 (by decide) (by decide) rfl rfl ?_
  refine fm_aload_n hc d_Pr_doPlain_171 rfl rfl ?_
  refine fm_aload_n hc d_Pr_doPlain_172 rfl rfl ?_
  refine fm_aload_n hc d_Pr_doPlain_173 rfl rfl ?_
  refine fm_getI (k := 2) hc K_Pr d_Pr_doPlain_174 q_125 rfl (by decide) (by omega) (by decide) (by decide) (by decide) rfl ?_
  refine fm_top (congrArg Value.int hy) ?_
  refine fm_iald (j := y) (len := 8) hc 0 d_Pr_doPlain_177 b8 bn bl rfl (by omega) (by decide) ?_
  refine fm_i2l hc d_Pr_doPlain_178 ?_
  refine fm_callV (av := [.long ((M.1 tb y).toInt64)]) (rest := []) (ob := tr) (ci := 5) (r0 := ("AgentNet$Traveller", F_Tr, 13)) (y := y_Tr_push) (bytes := b_Tr_push) hc fm_T0_good (fm_EX_st b x) hex q_640 q_8 q_641 q_638 q_639 pd_Tr_push (by omega) tn tl (by decide) rfl rfl (c_push (M := M) (d := d) (by omega) tn t1n tl tl1 ht1 hd hd6) ⟨rfl, rfl, Nat.le_of_ble_eq_true rfl, Nat.le_of_ble_eq_true rfl⟩ ⟨Nat.le_of_ble_eq_true rfl, Nat.le_of_ble_eq_true rfl⟩ d_Pr_doPlain_179 (Nat.le_of_ble_eq_true rfl) (fun r n2 M2 hp => ?_)
  obtain ⟨rfl, hq1, hq2⟩ := hp
  replace hq1 := hq1.symm
  replace hq2 := hq2.symm
  subst hq1 hq2
  refine fm_cnt (z' := (0, 0)) rfl (fm_st (st' := []) rfl ?_)
  refine fm_goto (tgt := 254) hc d_Pr_doPlain_182 rfl ?_
  refine fm_iconst (v := nI 0) hc d_Pr_doPlain_254 rfl ?_
  exact fm_iret hc hr d_Pr_doPlain_255 (Nat.le_refl _) (Nat.le_refl _) ⟨rfl, rfl, rfl⟩
theorem c_plain_8 {l : Launch} {b : Nat} {x : Nat → Nat} {D : va_G} {dA : Nat → ClassId} {tr tb he : Nat}   {t : Int32} {M9 : fm_M} {n : Nat} {M : fm_M} (hn : 586 ≤ n) (t8 : 70 ≤ tr) (tn : tr < n) (t1n : tr + 1 < n) (t2n : tr + 2 < n) (t3n : tr + 3 < n) (tl : (fm_lay tr).1 = 5) (tl1 : fm_lay (tr + 1) = (110, 6)) (tl2 : fm_lay (tr + 2) = (110, 8)) (tl3 : fm_lay (tr + 3) = (110, 8)) (ht1 : M.2.2 tr 10 = some (tr + 1)) (ht2 : M.2.2 tr 11 = some (tr + 2)) (ht3 : M.2.2 tr 12 = some (tr + 3)) (hcd : M.1 60 1 = nI 8) (hq : Met l y_Pr_say (Cond.code y_Pr_say b_Pr_say 2 (some .int) :: fm_T0) ({ frames := 0, cells := 0, slots := 0, locals := 0 }) (fm_Pc fm_lay fm_nf fm_fk fm_cl b x D dA (fm_tys dA) (fm_EX b x) false [.ref 60, .ref tr] n M) (fm_Qc fm_lay fm_nf fm_fk fm_cl b x D dA (fun r n' M' => r = some (.int t) ∧ n' = n ∧ M' = M9)) 0 0 (fm_A b)) : Met l y_Pr_doPlain (Cond.code y_Pr_doPlain b_Pr_doPlain 4 (some .int) :: fm_T0) ({ frames := 2, cells := 0, slots := 0, locals := 60 }) (fm_Pc fm_lay fm_nf fm_fk fm_cl b x D dA (fm_tys dA) (fm_EX b x) false [.ref 60, .ref tr, .ref tb, .int (nI he)] n M) (fm_Qc fm_lay fm_nf fm_fk fm_cl b x D dA (fun r n' M' => r = some (.int t) ∧ n' = n ∧ M' = M9)) 0 0 (fm_A b) := by
  refine fm_enter (by decide) (Nat.le_of_ble_eq_true rfl) ?_
  intro p e s m args below meth c9 hc hr hnm hex htg
  refine fm_aload_n hc d_Pr_doPlain_0 rfl rfl ?_
  refine fm_getI (k := 1) hc K_Pr d_Pr_doPlain_1 q_124 rfl (by decide) (by omega) (by decide) (by decide) (by decide) rfl ?_
  refine fm_top (congrArg Value.int hcd) ?_
  refine fm_tableIn (off := 181) (tgt := 185) hc d_Pr_doPlain_4 (by decide) (by decide) rfl rfl ?_
  refine fm_aload_n hc d_Pr_doPlain_185 rfl rfl ?_
  refine fm_aload_n hc d_Pr_doPlain_186 rfl rfl ?_
  refine fm_callV (av := [.ref tr]) (rest := []) (ob := 60) (ci := 10) (r0 := ("AgentNet$Processor", F_Pr, 6)) (y := y_Pr_say) (bytes := b_Pr_say) hc fm_T0_good (fm_EX_st b x) hex q_649 q_4 q_646 q_648 qs_Pr_say pd_Pr_say (by decide) (by omega) (by decide) (by decide) rfl rfl (hq) ⟨rfl, rfl, Nat.le_of_ble_eq_true rfl, Nat.le_of_ble_eq_true rfl⟩ ⟨Nat.le_of_ble_eq_true rfl, Nat.le_of_ble_eq_true rfl⟩ d_Pr_doPlain_187 (Nat.le_of_ble_eq_true rfl) (fun r n2 M2 hp => ?_)
  obtain ⟨rfl, hq1, hq2⟩ := hp
  replace hq1 := hq1.symm
  replace hq2 := hq2.symm
  subst hq1 hq2
  refine fm_cnt (z' := (0, 0)) rfl (fm_st (st' := [.int t]) rfl ?_)
  exact fm_iret hc hr d_Pr_doPlain_190 (Nat.le_refl _) (Nat.le_refl _) ⟨rfl, rfl, rfl⟩
theorem c_plain_9 {l : Launch} {b : Nat} {x : Nat → Nat} {D : va_G} {dA : Nat → ClassId} {tr tb he : Nat}   {t : Int32} {M9 : fm_M} {n : Nat} {M : fm_M} (hn : 586 ≤ n) (t8 : 70 ≤ tr) (tn : tr < n) (t1n : tr + 1 < n) (t2n : tr + 2 < n) (t3n : tr + 3 < n) (tl : (fm_lay tr).1 = 5) (tl1 : fm_lay (tr + 1) = (110, 6)) (tl2 : fm_lay (tr + 2) = (110, 8)) (tl3 : fm_lay (tr + 3) = (110, 8)) (ht1 : M.2.2 tr 10 = some (tr + 1)) (ht2 : M.2.2 tr 11 = some (tr + 2)) (ht3 : M.2.2 tr 12 = some (tr + 3)) (hcd : M.1 60 1 = nI 9) (hq : Met l y_Pr_go (Cond.code y_Pr_go b_Pr_go 3 (some .int) :: fm_T0) ({ frames := 0, cells := 0, slots := 0, locals := 0 }) (fm_Pc fm_lay fm_nf fm_fk fm_cl b x D dA (fm_tys dA) (fm_EX b x) false [.ref 60, .ref tr, .int (nI he)] n M) (fm_Qc fm_lay fm_nf fm_fk fm_cl b x D dA (fun r n' M' => r = some (.int t) ∧ n' = n ∧ M' = M9)) 0 0 (fm_A b)) : Met l y_Pr_doPlain (Cond.code y_Pr_doPlain b_Pr_doPlain 4 (some .int) :: fm_T0) ({ frames := 2, cells := 0, slots := 0, locals := 60 }) (fm_Pc fm_lay fm_nf fm_fk fm_cl b x D dA (fm_tys dA) (fm_EX b x) false [.ref 60, .ref tr, .ref tb, .int (nI he)] n M) (fm_Qc fm_lay fm_nf fm_fk fm_cl b x D dA (fun r n' M' => r = some (.int t) ∧ n' = n ∧ M' = M9)) 0 0 (fm_A b) := by
  refine fm_enter (by decide) (Nat.le_of_ble_eq_true rfl) ?_
  intro p e s m args below meth c9 hc hr hnm hex htg
  refine fm_aload_n hc d_Pr_doPlain_0 rfl rfl ?_
  refine fm_getI (k := 1) hc K_Pr d_Pr_doPlain_1 q_124 rfl (by decide) (by omega) (by decide) (by decide) (by decide) rfl ?_
  refine fm_top (congrArg Value.int hcd) ?_
  refine fm_tableIn (off := 187) (tgt := 191) hc d_Pr_doPlain_4 (by decide) (by decide) rfl rfl ?_
  refine fm_aload_n hc d_Pr_doPlain_191 rfl rfl ?_
  refine fm_aload_n hc d_Pr_doPlain_192 rfl rfl ?_
  refine fm_iload_n hc d_Pr_doPlain_193 rfl rfl ?_
  refine fm_callV (av := [.ref tr, .int (nI he)]) (rest := []) (ob := 60) (ci := 10) (r0 := ("AgentNet$Processor", F_Pr, 6)) (y := y_Pr_go) (bytes := b_Pr_go) hc fm_T0_good (fm_EX_st b x) hex q_653 q_4 q_650 q_652 qs_Pr_go pd_Pr_go (by decide) (by omega) (by decide) (by decide) rfl rfl (hq) ⟨rfl, rfl, Nat.le_of_ble_eq_true rfl, Nat.le_of_ble_eq_true rfl⟩ ⟨Nat.le_of_ble_eq_true rfl, Nat.le_of_ble_eq_true rfl⟩ d_Pr_doPlain_194 (Nat.le_of_ble_eq_true rfl) (fun r n2 M2 hp => ?_)
  obtain ⟨rfl, hq1, hq2⟩ := hp
  replace hq1 := hq1.symm
  replace hq2 := hq2.symm
  subst hq1 hq2
  refine fm_cnt (z' := (0, 0)) rfl (fm_st (st' := [.int t]) rfl ?_)
  exact fm_iret hc hr d_Pr_doPlain_197 (Nat.le_refl _) (Nat.le_refl _) ⟨rfl, rfl, rfl⟩
theorem c_plain_12 {l : Launch} {b : Nat} {x : Nat → Nat} {D : va_G} {dA : Nat → ClassId} {tr tb he : Nat}   {t : Int32} {M9 : fm_M} {n : Nat} {M : fm_M} (hn : 586 ≤ n) (t8 : 70 ≤ tr) (tn : tr < n) (t1n : tr + 1 < n) (t2n : tr + 2 < n) (t3n : tr + 3 < n) (tl : (fm_lay tr).1 = 5) (tl1 : fm_lay (tr + 1) = (110, 6)) (tl2 : fm_lay (tr + 2) = (110, 8)) (tl3 : fm_lay (tr + 3) = (110, 8)) (ht1 : M.2.2 tr 10 = some (tr + 1)) (ht2 : M.2.2 tr 11 = some (tr + 2)) (ht3 : M.2.2 tr 12 = some (tr + 3)) (hcd : M.1 60 1 = nI 12) (hq : Met l y_Pr_divide (Cond.code y_Pr_divide b_Pr_divide 2 (some .int) :: fm_T0) ({ frames := 1, cells := 0, slots := 0, locals := 25 }) (fm_Pc fm_lay fm_nf fm_fk fm_cl b x D dA (fm_tys dA) (fm_EX b x) false [.ref 60, .ref tr] n M) (fm_Qc fm_lay fm_nf fm_fk fm_cl b x D dA (fun r n' M' => r = some (.int t) ∧ n' = n ∧ M' = M9)) 0 0 (fm_A b)) : Met l y_Pr_doPlain (Cond.code y_Pr_doPlain b_Pr_doPlain 4 (some .int) :: fm_T0) ({ frames := 2, cells := 0, slots := 0, locals := 60 }) (fm_Pc fm_lay fm_nf fm_fk fm_cl b x D dA (fm_tys dA) (fm_EX b x) false [.ref 60, .ref tr, .ref tb, .int (nI he)] n M) (fm_Qc fm_lay fm_nf fm_fk fm_cl b x D dA (fun r n' M' => r = some (.int t) ∧ n' = n ∧ M' = M9)) 0 0 (fm_A b) := by
  refine fm_enter (by decide) (Nat.le_of_ble_eq_true rfl) ?_
  intro p e s m args below meth c9 hc hr hnm hex htg
  refine fm_aload_n hc d_Pr_doPlain_0 rfl rfl ?_
  refine fm_getI (k := 1) hc K_Pr d_Pr_doPlain_1 q_124 rfl (by decide) (by omega) (by decide) (by decide) (by decide) rfl ?_
  refine fm_top (congrArg Value.int hcd) ?_
  refine fm_tableIn (off := 232) (tgt := 236) hc d_Pr_doPlain_4 (by decide) (by decide) rfl rfl ?_
  refine fm_aload_n hc d_Pr_doPlain_236 rfl rfl ?_
  refine fm_aload_n hc d_Pr_doPlain_237 rfl rfl ?_
  refine fm_callV (av := [.ref tr]) (rest := []) (ob := 60) (ci := 10) (r0 := ("AgentNet$Processor", F_Pr, 6)) (y := y_Pr_divide) (bytes := b_Pr_divide) hc fm_T0_good (fm_EX_st b x) hex q_657 q_4 q_654 q_656 qs_Pr_divide pd_Pr_divide (by decide) (by omega) (by decide) (by decide) rfl rfl (hq) ⟨rfl, rfl, Nat.le_of_ble_eq_true rfl, Nat.le_of_ble_eq_true rfl⟩ ⟨Nat.le_of_ble_eq_true rfl, Nat.le_of_ble_eq_true rfl⟩ d_Pr_doPlain_238 (Nat.le_of_ble_eq_true rfl) (fun r n2 M2 hp => ?_)
  obtain ⟨rfl, hq1, hq2⟩ := hp
  replace hq1 := hq1.symm
  replace hq2 := hq2.symm
  subst hq1 hq2
  refine fm_cnt (z' := (0, 0)) rfl (fm_st (st' := [.int t]) rfl ?_)
  exact fm_iret hc hr d_Pr_doPlain_241 (Nat.le_refl _) (Nat.le_refl _) ⟨rfl, rfl, rfl⟩
theorem c_plain_10 {l : Launch} {b : Nat} {x : Nat → Nat} {D : va_G} {dA : Nat → ClassId} {tr tb he y : Nat}   {n : Nat} {M : fm_M} (hn : 586 ≤ n) (t8 : 70 ≤ tr) (tn : tr < n) (t1n : tr + 1 < n) (t2n : tr + 2 < n) (t3n : tr + 3 < n) (tl : (fm_lay tr).1 = 5) (tl1 : fm_lay (tr + 1) = (110, 6)) (tl2 : fm_lay (tr + 2) = (110, 8)) (tl3 : fm_lay (tr + 3) = (110, 8)) (ht1 : M.2.2 tr 10 = some (tr + 1)) (ht2 : M.2.2 tr 11 = some (tr + 2)) (ht3 : M.2.2 tr 12 = some (tr + 3)) (hcd : M.1 60 1 = nI 10) (hy : M.1 60 2 = nI y) : Met l y_Pr_doPlain (Cond.code y_Pr_doPlain b_Pr_doPlain 4 (some .int) :: fm_T0) ({ frames := 2, cells := 0, slots := 0, locals := 60 }) (fm_Pc fm_lay fm_nf fm_fk fm_cl b x D dA (fm_tys dA) (fm_EX b x) false [.ref 60, .ref tr, .ref tb, .int (nI he)] n M) (fm_Qc fm_lay fm_nf fm_fk fm_cl b x D dA (fun r n' M' => r = some (.int (nI 0)) ∧ n' = n ∧ M' = fm_put1 M tr 2 (nI y))) 0 0 (fm_A b) := by
  refine fm_enter (by decide) (Nat.le_of_ble_eq_true rfl) ?_
  intro p e s m args below meth c9 hc hr hnm hex htg
  refine fm_aload_n hc d_Pr_doPlain_0 rfl rfl ?_
  refine fm_getI (k := 1) hc K_Pr d_Pr_doPlain_1 q_124 rfl (by decide) (by omega) (by decide) (by decide) (by decide) rfl ?_
  refine fm_top (congrArg Value.int hcd) ?_
  refine fm_tableIn (off := 194) (tgt := 198) hc d_Pr_doPlain_4 (by decide) (by decide) rfl rfl ?_
  refine fm_aload_n hc d_Pr_doPlain_198 rfl rfl ?_
  refine fm_aload_n hc d_Pr_doPlain_199 rfl rfl ?_
  refine fm_getI (k := 2) hc K_Pr d_Pr_doPlain_200 q_125 rfl (by decide) (by omega) (by decide) (by decide) (by decide) rfl ?_
  refine fm_top (congrArg Value.int hy) ?_
  refine fm_putI (k := 2) (v := nI y) hc K_Tr d_Pr_doPlain_203 q_181 rfl (by omega) tn tl (by decide) (by decide) rfl rfl rfl rfl ?_
  refine fm_goto (tgt := 254) hc d_Pr_doPlain_206 rfl ?_
  refine fm_iconst (v := nI 0) hc d_Pr_doPlain_254 rfl ?_
  exact fm_iret hc hr d_Pr_doPlain_255 (Nat.le_refl _) (Nat.le_refl _) ⟨rfl, rfl, rfl⟩
theorem c_plain_11z {l : Launch} {b : Nat} {x : Nat → Nat} {D : va_G} {dA : Nat → ClassId} {tr tb he y : Nat} {v : Int32}  {n : Nat} {M : fm_M} (hn : 586 ≤ n) (t8 : 70 ≤ tr) (tn : tr < n) (t1n : tr + 1 < n) (t2n : tr + 2 < n) (t3n : tr + 3 < n) (tl : (fm_lay tr).1 = 5) (tl1 : fm_lay (tr + 1) = (110, 6)) (tl2 : fm_lay (tr + 2) = (110, 8)) (tl3 : fm_lay (tr + 3) = (110, 8)) (ht1 : M.2.2 tr 10 = some (tr + 1)) (ht2 : M.2.2 tr 11 = some (tr + 2)) (ht3 : M.2.2 tr 12 = some (tr + 3)) (hcd : M.1 60 1 = nI 11) (hy : M.1 60 2 = nI y) (hu : M.2.1 60 4 = v.toInt64) (h1 : v = 0) : Met l y_Pr_doPlain (Cond.code y_Pr_doPlain b_Pr_doPlain 4 (some .int) :: fm_T0) ({ frames := 2, cells := 0, slots := 0, locals := 60 }) (fm_Pc fm_lay fm_nf fm_fk fm_cl b x D dA (fm_tys dA) (fm_EX b x) false [.ref 60, .ref tr, .ref tb, .int (nI he)] n M) (fm_Qc fm_lay fm_nf fm_fk fm_cl b x D dA (fun r n' M' => r = some (.int (nI 0)) ∧ n' = n ∧ M' = M)) 0 0 (fm_A b) := by
  refine fm_enter (by decide) (Nat.le_of_ble_eq_true rfl) ?_
  intro p e s m args below meth c9 hc hr hnm hex htg
  refine fm_aload_n hc d_Pr_doPlain_0 rfl rfl ?_
  refine fm_getI (k := 1) hc K_Pr d_Pr_doPlain_1 q_124 rfl (by decide) (by omega) (by decide) (by decide) (by decide) rfl ?_
  refine fm_top (congrArg Value.int hcd) ?_
  refine fm_tableIn (off := 205) (tgt := 209) hc d_Pr_doPlain_4 (by decide) (by decide) rfl rfl ?_
  refine fm_aload_n hc d_Pr_doPlain_209 rfl rfl ?_
  refine fm_aload_n hc d_Pr_doPlain_210 rfl rfl ?_
  refine fm_getL (k := 4) hc K_Pr d_Pr_doPlain_211 q_127 rfl (by decide) (by omega) (by decide) (by decide) (by decide) rfl ?_
  refine fm_top (congrArg Value.long hu) ?_
  refine fm_lconst (v := 0) hc d_Pr_doPlain_214 rfl ?_
  refine fm_lcmp hc d_Pr_doPlain_215 ?_
  refine fm_if_eq (tgt := 226) hc d_Pr_doPlain_216 rfl (fun _ => ?_) (fun g => absurd ((lg_cmp_eq _ _).mpr ((l64_eq v 0).mpr h1)) g)
  refine fm_aload_n hc d_Pr_doPlain_226 rfl rfl ?_
  refine fm_getI (k := 2) hc K_Tr d_Pr_doPlain_227 q_181 rfl (by omega) tn tl (by decide) (by decide) rfl ?_
  refine fm_putI (k := 2) (v := M.1 tr 2) hc K_Tr d_Pr_doPlain_230 q_181 rfl (by omega) tn tl (by decide) (by decide) rfl rfl rfl rfl ?_
  refine fm_mem (M' := M) rfl (p1_id rfl) ?_
  refine fm_goto (tgt := 254) hc d_Pr_doPlain_233 rfl ?_
  refine fm_iconst (v := nI 0) hc d_Pr_doPlain_254 rfl ?_
  exact fm_iret hc hr d_Pr_doPlain_255 (Nat.le_refl _) (Nat.le_refl _) ⟨rfl, rfl, rfl⟩
theorem c_plain_11 {l : Launch} {b : Nat} {x : Nat → Nat} {D : va_G} {dA : Nat → ClassId} {tr tb he y : Nat} {v : Int32}  {n : Nat} {M : fm_M} (hn : 586 ≤ n) (t8 : 70 ≤ tr) (tn : tr < n) (t1n : tr + 1 < n) (t2n : tr + 2 < n) (t3n : tr + 3 < n) (tl : (fm_lay tr).1 = 5) (tl1 : fm_lay (tr + 1) = (110, 6)) (tl2 : fm_lay (tr + 2) = (110, 8)) (tl3 : fm_lay (tr + 3) = (110, 8)) (ht1 : M.2.2 tr 10 = some (tr + 1)) (ht2 : M.2.2 tr 11 = some (tr + 2)) (ht3 : M.2.2 tr 12 = some (tr + 3)) (hcd : M.1 60 1 = nI 11) (hy : M.1 60 2 = nI y) (hu : M.2.1 60 4 = v.toInt64) (h1 : ¬ v = 0) : Met l y_Pr_doPlain (Cond.code y_Pr_doPlain b_Pr_doPlain 4 (some .int) :: fm_T0) ({ frames := 2, cells := 0, slots := 0, locals := 60 }) (fm_Pc fm_lay fm_nf fm_fk fm_cl b x D dA (fm_tys dA) (fm_EX b x) false [.ref 60, .ref tr, .ref tb, .int (nI he)] n M) (fm_Qc fm_lay fm_nf fm_fk fm_cl b x D dA (fun r n' M' => r = some (.int (nI 0)) ∧ n' = n ∧ M' = fm_put1 M tr 2 (nI y))) 0 0 (fm_A b) := by
  refine fm_enter (by decide) (Nat.le_of_ble_eq_true rfl) ?_
  intro p e s m args below meth c9 hc hr hnm hex htg
  refine fm_aload_n hc d_Pr_doPlain_0 rfl rfl ?_
  refine fm_getI (k := 1) hc K_Pr d_Pr_doPlain_1 q_124 rfl (by decide) (by omega) (by decide) (by decide) (by decide) rfl ?_
  refine fm_top (congrArg Value.int hcd) ?_
  refine fm_tableIn (off := 205) (tgt := 209) hc d_Pr_doPlain_4 (by decide) (by decide) rfl rfl ?_
  refine fm_aload_n hc d_Pr_doPlain_209 rfl rfl ?_
  refine fm_aload_n hc d_Pr_doPlain_210 rfl rfl ?_
  refine fm_getL (k := 4) hc K_Pr d_Pr_doPlain_211 q_127 rfl (by decide) (by omega) (by decide) (by decide) (by decide) rfl ?_
  refine fm_top (congrArg Value.long hu) ?_
  refine fm_lconst (v := 0) hc d_Pr_doPlain_214 rfl ?_
  refine fm_lcmp hc d_Pr_doPlain_215 ?_
  refine fm_if_eq (tgt := 226) hc d_Pr_doPlain_216 rfl (fun g => absurd g (fun g => h1 ((l64_eq v 0).mp ((lg_cmp_eq _ _).mp g)))) (fun _ => ?_)
  refine fm_aload_n hc d_Pr_doPlain_219 rfl rfl ?_
  refine fm_getI (k := 2) hc K_Pr d_Pr_doPlain_220 q_125 rfl (by decide) (by omega) (by decide) (by decide) (by decide) rfl ?_
  refine fm_top (congrArg Value.int hy) ?_
  refine fm_goto (tgt := 230) hc d_Pr_doPlain_223 rfl ?_
  refine fm_putI (k := 2) (v := nI y) hc K_Tr d_Pr_doPlain_230 q_181 rfl (by omega) tn tl (by decide) (by decide) rfl rfl rfl rfl ?_
  refine fm_goto (tgt := 254) hc d_Pr_doPlain_233 rfl ?_
  refine fm_iconst (v := nI 0) hc d_Pr_doPlain_254 rfl ?_
  exact fm_iret hc hr d_Pr_doPlain_255 (Nat.le_refl _) (Nat.le_refl _) ⟨rfl, rfl, rfl⟩
theorem c_plain_13 {l : Launch} {b : Nat} {x : Nat → Nat} {D : va_G} {dA : Nat → ClassId} {tr tb he : Nat} {v : Int32}  {n : Nat} {M : fm_M} (hn : 586 ≤ n) (t8 : 70 ≤ tr) (tn : tr < n) (t1n : tr + 1 < n) (t2n : tr + 2 < n) (t3n : tr + 3 < n) (tl : (fm_lay tr).1 = 5) (tl1 : fm_lay (tr + 1) = (110, 6)) (tl2 : fm_lay (tr + 2) = (110, 8)) (tl3 : fm_lay (tr + 3) = (110, 8)) (ht1 : M.2.2 tr 10 = some (tr + 1)) (ht2 : M.2.2 tr 11 = some (tr + 2)) (ht3 : M.2.2 tr 12 = some (tr + 3)) (hcd : M.1 60 1 = nI 13) (hu : M.2.1 60 4 = v.toInt64) : Met l y_Pr_doPlain (Cond.code y_Pr_doPlain b_Pr_doPlain 4 (some .int) :: fm_T0) ({ frames := 2, cells := 0, slots := 0, locals := 60 }) (fm_Pc fm_lay fm_nf fm_fk fm_cl b x D dA (fm_tys dA) (fm_EX b x) false [.ref 60, .ref tr, .ref tb, .int (nI he)] n M) (fm_Qc fm_lay fm_nf fm_fk fm_cl b x D dA (fun r n' M' => r = some (.int (nI 0)) ∧ n' = n ∧ M' = fm_put1 M tr 6 v)) 0 0 (fm_A b) := by
  refine fm_enter (by decide) (Nat.le_of_ble_eq_true rfl) ?_
  intro p e s m args below meth c9 hc hr hnm hex htg
  refine fm_aload_n hc d_Pr_doPlain_0 rfl rfl ?_
  refine fm_getI (k := 1) hc K_Pr d_Pr_doPlain_1 q_124 rfl (by decide) (by omega) (by decide) (by decide) (by decide) rfl ?_
  refine fm_top (congrArg Value.int hcd) ?_
  refine fm_tableIn (off := 238) (tgt := 242) hc d_Pr_doPlain_4 (by decide) (by decide) rfl rfl ?_
  refine fm_aload_n hc d_Pr_doPlain_242 rfl rfl ?_
  refine fm_aload_n hc d_Pr_doPlain_243 rfl rfl ?_
  refine fm_getL (k := 4) hc K_Pr d_Pr_doPlain_244 q_127 rfl (by decide) (by omega) (by decide) (by decide) (by decide) rfl ?_
  refine fm_top (congrArg Value.long hu) ?_
  refine fm_l2i hc d_Pr_doPlain_247 ?_
  refine fm_top (congrArg Value.int (vx_low v)) ?_
  refine fm_putI (k := 6) (v := v) hc K_Tr d_Pr_doPlain_248 q_201 rfl (by omega) tn tl (by decide) (by decide) rfl rfl rfl rfl ?_
  refine fm_goto (tgt := 254) hc d_Pr_doPlain_251 rfl ?_
  refine fm_iconst (v := nI 0) hc d_Pr_doPlain_254 rfl ?_
  exact fm_iret hc hr d_Pr_doPlain_255 (Nat.le_refl _) (Nat.le_refl _) ⟨rfl, rfl, rfl⟩
theorem c_pairs_14p {l : Launch} {b : Nat} {x : Nat → Nat} {D : va_G} {dA : Nat → ClassId} {tr d np k : Nat}  {u64 : Int64} {n : Nat} {M : fm_M} (hn : 586 ≤ n) (t8 : 70 ≤ tr) (tn : tr < n) (t1n : tr + 1 < n) (t2n : tr + 2 < n) (t3n : tr + 3 < n) (tl : (fm_lay tr).1 = 5) (tl1 : fm_lay (tr + 1) = (110, 6)) (tl2 : fm_lay (tr + 2) = (110, 8)) (tl3 : fm_lay (tr + 3) = (110, 8)) (ht1 : M.2.2 tr 10 = some (tr + 1)) (ht2 : M.2.2 tr 11 = some (tr + 2)) (ht3 : M.2.2 tr 12 = some (tr + 3)) (hcd : M.1 60 1 = nI 14) (hlw : M.2.1 60 3 = 1099511627776 + (nI k).toInt64) (hk : k < 16) (hu : M.2.1 60 4 = u64) (hq : M.1 tr 9 = nI np) (hq8 : np < 8) (hd : M.1 tr 8 = nI d) (hd6 : d < 6) : Met l y_Pr_doPairs (Cond.code y_Pr_doPairs b_Pr_doPairs 3 (some .int) :: fm_T0) ({ frames := 2, cells := 0, slots := 0, locals := 60 }) (fm_Pc fm_lay fm_nf fm_fk fm_cl b x D dA (fm_tys dA) (fm_EX b x) false [.ref 60, .ref tr] n M) (fm_Qc fm_lay fm_nf fm_fk fm_cl b x D dA (fun r n' M' => r = some (.int (nI 0)) ∧ n' = n ∧ M' = fm_put1 (fm_put1 (fm_put2 (fm_put2 (fm_put2 M (tr + 2) np (1099511627776 + (nI k).toInt64)) (tr + 3) np u64) (tr + 1) d (1099511627776 + (nI np).toInt64)) tr 8 (nI (d + 1))) tr 9 (nI (np + 1)))) 0 0 (fm_A b) := by
  refine fm_enter (by decide) (Nat.le_of_ble_eq_true rfl) ?_
  intro p e s m args below meth c9 hc hr hnm hex htg
  refine fm_aload_n hc d_Pr_doPairs_0 rfl rfl ?_
  refine fm_getL (k := 3) hc K_Pr d_Pr_doPairs_1 q_126 rfl (by decide) (by omega) (by decide) (by decide) (by decide) rfl ?_
  refine fm_top (congrArg Value.long hlw) ?_
  refine fm_callSN (av := [.long (1099511627776 + (nI k).toInt64)]) (rest := []) (y := y_An_isPair) (bytes := b_An_isPair) hc fm_T0_good (fm_EX_st b x) hex q_427 q_1 (nx_12 hex) q_426 pd_An_isPair (c_isPair_ok (vx_pair k hk)) ⟨rfl, rfl, Nat.le_of_ble_eq_true rfl, Nat.le_of_ble_eq_true rfl⟩ ⟨Nat.le_of_ble_eq_true rfl, Nat.le_of_ble_eq_true rfl⟩ d_Pr_doPairs_4 (Nat.le_of_ble_eq_true rfl) (fun r n2 M2 hp => ?_)
  obtain ⟨rfl, hq1, hq2⟩ := hp
  replace hq1 := hq1.symm
  replace hq2 := hq2.symm
  subst hq1 hq2
  refine fm_cnt (z' := (0, 0)) rfl (fm_st (st' := [.int (nI 1)]) rfl ?_)
  refine fm_if_eq (tgt := 22) hc d_Pr_doPairs_7 rfl (fun g => absurd g (by decide)) (fun _ => ?_)
  refine fm_aload_n hc d_Pr_doPairs_10 rfl rfl ?_
  refine fm_getL (k := 3) hc K_Pr d_Pr_doPairs_11 q_126 rfl (by decide) (by omega) (by decide) (by decide) (by decide) rfl ?_
  refine fm_top (congrArg Value.long hlw) ?_
  refine fm_ldc2 (v := 1099511627776) hc d_Pr_doPairs_14 q_631 ?_
  refine fm_lsub hc d_Pr_doPairs_17 ?_
  refine fm_l2i hc d_Pr_doPairs_18 ?_
  refine fm_top (congrArg Value.int (vx_idx k hk)) ?_
  refine fm_goto (tgt := 23) hc d_Pr_doPairs_19 rfl ?_
  refine fm_istore_n (lv' := [(2, .int (nI k)), (0, .ref 60), (1, .ref tr)]) hc d_Pr_doPairs_23 rfl (by decide) rfl ?_
  refine fm_aload_n hc d_Pr_doPairs_24 rfl rfl ?_
  refine fm_getI (k := 1) hc K_Pr d_Pr_doPairs_25 q_124 rfl (by decide) (by omega) (by decide) (by decide) (by decide) rfl ?_
  refine fm_top (congrArg Value.int hcd) ?_
  refine fm_tableIn (off := 40) (tgt := 68) hc d_Pr_doPairs_28 (by decide) (by decide) rfl rfl ?_
  refine fm_aload_n hc d_Pr_doPairs_68 rfl rfl ?_
  refine fm_aload_n hc d_Pr_doPairs_69 rfl rfl ?_
  refine fm_getL (k := 3) hc K_Pr d_Pr_doPairs_70 q_126 rfl (by decide) (by omega) (by decide) (by decide) (by decide) rfl ?_
  refine fm_top (congrArg Value.long hlw) ?_
  refine fm_aload_n hc d_Pr_doPairs_73 rfl rfl ?_
  refine fm_getL (k := 4) hc K_Pr d_Pr_doPairs_74 q_127 rfl (by decide) (by omega) (by decide) (by decide) (by decide) rfl ?_
  refine fm_top (congrArg Value.long hu) ?_
  refine fm_callV (av := [.long (1099511627776 + (nI k).toInt64), .long u64]) (rest := []) (ob := tr) (ci := 5) (r0 := ("AgentNet$Traveller", F_Tr, 13)) (y := y_Tr_pushPair) (bytes := b_Tr_pushPair) hc fm_T0_good (fm_EX_st b x) hex q_635 q_8 q_632 q_633 q_634 pd_Tr_pushPair (by omega) tn tl (by decide) rfl rfl (c_pushPair hn t8 tn t1n t2n t3n tl tl1 tl2 tl3 ht1 ht2 ht3 hq hq8 hd hd6) ⟨rfl, rfl, Nat.le_of_ble_eq_true rfl, Nat.le_of_ble_eq_true rfl⟩ ⟨Nat.le_of_ble_eq_true rfl, Nat.le_of_ble_eq_true rfl⟩ d_Pr_doPairs_77 (Nat.le_of_ble_eq_true rfl) (fun r n2 M2 hp => ?_)
  obtain ⟨rfl, hq1, hq2⟩ := hp
  replace hq1 := hq1.symm
  replace hq2 := hq2.symm
  subst hq1 hq2
  refine fm_cnt (z' := (0, 0)) rfl (fm_st (st' := []) rfl ?_)
  refine fm_goto (tgt := 159) hc d_Pr_doPairs_80 rfl ?_
  refine fm_iconst (v := nI 0) hc d_Pr_doPairs_159 rfl ?_
  exact fm_iret hc hr d_Pr_doPairs_160 (Nat.le_refl _) (Nat.le_refl _) ⟨rfl, rfl, rfl⟩
theorem c_pairs_19pe {l : Launch} {b : Nat} {x : Nat → Nat} {D : va_G} {dA : Nat → ClassId} {tr d k : Nat}  {u64 : Int64} {n : Nat} {M : fm_M} (hn : 586 ≤ n) (t8 : 70 ≤ tr) (tn : tr < n) (t1n : tr + 1 < n) (t2n : tr + 2 < n) (t3n : tr + 3 < n) (tl : (fm_lay tr).1 = 5) (tl1 : fm_lay (tr + 1) = (110, 6)) (tl2 : fm_lay (tr + 2) = (110, 8)) (tl3 : fm_lay (tr + 3) = (110, 8)) (ht1 : M.2.2 tr 10 = some (tr + 1)) (ht2 : M.2.2 tr 11 = some (tr + 2)) (ht3 : M.2.2 tr 12 = some (tr + 3)) (hcd : M.1 60 1 = nI 19) (hlw : M.2.1 60 3 = 1099511627776 + (nI k).toInt64) (hk : k < 16) (hu : M.2.1 60 4 = u64) (hd : M.1 tr 8 = nI d) (hd6 : d < 6) (h1 : 1099511627776 + (nI k).toInt64 = u64) : Met l y_Pr_doPairs (Cond.code y_Pr_doPairs b_Pr_doPairs 3 (some .int) :: fm_T0) ({ frames := 2, cells := 0, slots := 0, locals := 60 }) (fm_Pc fm_lay fm_nf fm_fk fm_cl b x D dA (fm_tys dA) (fm_EX b x) false [.ref 60, .ref tr] n M) (fm_Qc fm_lay fm_nf fm_fk fm_cl b x D dA (fun r n' M' => r = some (.int (nI 0)) ∧ n' = n ∧ M' = fm_put1 (fm_put2 (M) (tr + 1) d 1) tr 8 (nI (d + 1)))) 0 0 (fm_A b) := by
  refine fm_enter (by decide) (Nat.le_of_ble_eq_true rfl) ?_
  intro p e s m args below meth c9 hc hr hnm hex htg
  refine fm_aload_n hc d_Pr_doPairs_0 rfl rfl ?_
  refine fm_getL (k := 3) hc K_Pr d_Pr_doPairs_1 q_126 rfl (by decide) (by omega) (by decide) (by decide) (by decide) rfl ?_
  refine fm_top (congrArg Value.long hlw) ?_
  refine fm_callSN (av := [.long (1099511627776 + (nI k).toInt64)]) (rest := []) (y := y_An_isPair) (bytes := b_An_isPair) hc fm_T0_good (fm_EX_st b x) hex q_427 q_1 (nx_12 hex) q_426 pd_An_isPair (c_isPair_ok (vx_pair k hk)) ⟨rfl, rfl, Nat.le_of_ble_eq_true rfl, Nat.le_of_ble_eq_true rfl⟩ ⟨Nat.le_of_ble_eq_true rfl, Nat.le_of_ble_eq_true rfl⟩ d_Pr_doPairs_4 (Nat.le_of_ble_eq_true rfl) (fun r n2 M2 hp => ?_)
  obtain ⟨rfl, hq1, hq2⟩ := hp
  replace hq1 := hq1.symm
  replace hq2 := hq2.symm
  subst hq1 hq2
  refine fm_cnt (z' := (0, 0)) rfl (fm_st (st' := [.int (nI 1)]) rfl ?_)
  refine fm_if_eq (tgt := 22) hc d_Pr_doPairs_7 rfl (fun g => absurd g (by decide)) (fun _ => ?_)
  refine fm_aload_n hc d_Pr_doPairs_10 rfl rfl ?_
  refine fm_getL (k := 3) hc K_Pr d_Pr_doPairs_11 q_126 rfl (by decide) (by omega) (by decide) (by decide) (by decide) rfl ?_
  refine fm_top (congrArg Value.long hlw) ?_
  refine fm_ldc2 (v := 1099511627776) hc d_Pr_doPairs_14 q_631 ?_
  refine fm_lsub hc d_Pr_doPairs_17 ?_
  refine fm_l2i hc d_Pr_doPairs_18 ?_
  refine fm_top (congrArg Value.int (vx_idx k hk)) ?_
  refine fm_goto (tgt := 23) hc d_Pr_doPairs_19 rfl ?_
  refine fm_istore_n (lv' := [(2, .int (nI k)), (0, .ref 60), (1, .ref tr)]) hc d_Pr_doPairs_23 rfl (by decide) rfl ?_
  refine fm_aload_n hc d_Pr_doPairs_24 rfl rfl ?_
  refine fm_getI (k := 1) hc K_Pr d_Pr_doPairs_25 q_124 rfl (by decide) (by omega) (by decide) (by decide) (by decide) rfl ?_
  refine fm_top (congrArg Value.int hcd) ?_
  refine fm_tableIn (off := 107) (tgt := 135) hc d_Pr_doPairs_28 (by decide) (by decide) rfl rfl ?_
  refine fm_aload_n hc d_Pr_doPairs_135 rfl rfl ?_
  refine fm_aload_n hc d_Pr_doPairs_136 rfl rfl ?_
  refine fm_getL (k := 3) hc K_Pr d_Pr_doPairs_137 q_126 rfl (by decide) (by omega) (by decide) (by decide) (by decide) rfl ?_
  refine fm_top (congrArg Value.long hlw) ?_
  refine fm_aload_n hc d_Pr_doPairs_140 rfl rfl ?_
  refine fm_getL (k := 4) hc K_Pr d_Pr_doPairs_141 q_127 rfl (by decide) (by omega) (by decide) (by decide) (by decide) rfl ?_
  refine fm_top (congrArg Value.long hu) ?_
  refine fm_lcmp hc d_Pr_doPairs_144 ?_
  refine fm_if_ne (tgt := 152) hc d_Pr_doPairs_145 rfl (fun g => absurd ((lg_cmp_eq _ _).mpr h1) g) (fun _ => ?_)
  refine fm_lconst (v := 1) hc d_Pr_doPairs_148 rfl ?_
  refine fm_goto (tgt := 153) hc d_Pr_doPairs_149 rfl ?_
  refine fm_callV (av := [.long 1]) (rest := []) (ob := tr) (ci := 5) (r0 := ("AgentNet$Traveller", F_Tr, 13)) (y := y_Tr_push) (bytes := b_Tr_push) hc fm_T0_good (fm_EX_st b x) hex q_640 q_8 q_641 q_638 q_639 pd_Tr_push (by omega) tn tl (by decide) rfl rfl (c_push (M := M) (d := d) (by omega) tn t1n tl tl1 ht1 hd hd6) ⟨rfl, rfl, Nat.le_of_ble_eq_true rfl, Nat.le_of_ble_eq_true rfl⟩ ⟨Nat.le_of_ble_eq_true rfl, Nat.le_of_ble_eq_true rfl⟩ d_Pr_doPairs_153 (Nat.le_of_ble_eq_true rfl) (fun r n2 M2 hp => ?_)
  obtain ⟨rfl, hq1, hq2⟩ := hp
  replace hq1 := hq1.symm
  replace hq2 := hq2.symm
  subst hq1 hq2
  refine fm_cnt (z' := (0, 0)) rfl (fm_st (st' := []) rfl ?_)
  refine fm_goto (tgt := 159) hc d_Pr_doPairs_156 rfl ?_
  refine fm_iconst (v := nI 0) hc d_Pr_doPairs_159 rfl ?_
  exact fm_iret hc hr d_Pr_doPairs_160 (Nat.le_refl _) (Nat.le_refl _) ⟨rfl, rfl, rfl⟩
theorem c_pairs_19pn {l : Launch} {b : Nat} {x : Nat → Nat} {D : va_G} {dA : Nat → ClassId} {tr d k : Nat}  {u64 : Int64} {n : Nat} {M : fm_M} (hn : 586 ≤ n) (t8 : 70 ≤ tr) (tn : tr < n) (t1n : tr + 1 < n) (t2n : tr + 2 < n) (t3n : tr + 3 < n) (tl : (fm_lay tr).1 = 5) (tl1 : fm_lay (tr + 1) = (110, 6)) (tl2 : fm_lay (tr + 2) = (110, 8)) (tl3 : fm_lay (tr + 3) = (110, 8)) (ht1 : M.2.2 tr 10 = some (tr + 1)) (ht2 : M.2.2 tr 11 = some (tr + 2)) (ht3 : M.2.2 tr 12 = some (tr + 3)) (hcd : M.1 60 1 = nI 19) (hlw : M.2.1 60 3 = 1099511627776 + (nI k).toInt64) (hk : k < 16) (hu : M.2.1 60 4 = u64) (hd : M.1 tr 8 = nI d) (hd6 : d < 6) (h1 : ¬ 1099511627776 + (nI k).toInt64 = u64) : Met l y_Pr_doPairs (Cond.code y_Pr_doPairs b_Pr_doPairs 3 (some .int) :: fm_T0) ({ frames := 2, cells := 0, slots := 0, locals := 60 }) (fm_Pc fm_lay fm_nf fm_fk fm_cl b x D dA (fm_tys dA) (fm_EX b x) false [.ref 60, .ref tr] n M) (fm_Qc fm_lay fm_nf fm_fk fm_cl b x D dA (fun r n' M' => r = some (.int (nI 0)) ∧ n' = n ∧ M' = fm_put1 (fm_put2 (M) (tr + 1) d 0) tr 8 (nI (d + 1)))) 0 0 (fm_A b) := by
  refine fm_enter (by decide) (Nat.le_of_ble_eq_true rfl) ?_
  intro p e s m args below meth c9 hc hr hnm hex htg
  refine fm_aload_n hc d_Pr_doPairs_0 rfl rfl ?_
  refine fm_getL (k := 3) hc K_Pr d_Pr_doPairs_1 q_126 rfl (by decide) (by omega) (by decide) (by decide) (by decide) rfl ?_
  refine fm_top (congrArg Value.long hlw) ?_
  refine fm_callSN (av := [.long (1099511627776 + (nI k).toInt64)]) (rest := []) (y := y_An_isPair) (bytes := b_An_isPair) hc fm_T0_good (fm_EX_st b x) hex q_427 q_1 (nx_12 hex) q_426 pd_An_isPair (c_isPair_ok (vx_pair k hk)) ⟨rfl, rfl, Nat.le_of_ble_eq_true rfl, Nat.le_of_ble_eq_true rfl⟩ ⟨Nat.le_of_ble_eq_true rfl, Nat.le_of_ble_eq_true rfl⟩ d_Pr_doPairs_4 (Nat.le_of_ble_eq_true rfl) (fun r n2 M2 hp => ?_)
  obtain ⟨rfl, hq1, hq2⟩ := hp
  replace hq1 := hq1.symm
  replace hq2 := hq2.symm
  subst hq1 hq2
  refine fm_cnt (z' := (0, 0)) rfl (fm_st (st' := [.int (nI 1)]) rfl ?_)
  refine fm_if_eq (tgt := 22) hc d_Pr_doPairs_7 rfl (fun g => absurd g (by decide)) (fun _ => ?_)
  refine fm_aload_n hc d_Pr_doPairs_10 rfl rfl ?_
  refine fm_getL (k := 3) hc K_Pr d_Pr_doPairs_11 q_126 rfl (by decide) (by omega) (by decide) (by decide) (by decide) rfl ?_
  refine fm_top (congrArg Value.long hlw) ?_
  refine fm_ldc2 (v := 1099511627776) hc d_Pr_doPairs_14 q_631 ?_
  refine fm_lsub hc d_Pr_doPairs_17 ?_
  refine fm_l2i hc d_Pr_doPairs_18 ?_
  refine fm_top (congrArg Value.int (vx_idx k hk)) ?_
  refine fm_goto (tgt := 23) hc d_Pr_doPairs_19 rfl ?_
  refine fm_istore_n (lv' := [(2, .int (nI k)), (0, .ref 60), (1, .ref tr)]) hc d_Pr_doPairs_23 rfl (by decide) rfl ?_
  refine fm_aload_n hc d_Pr_doPairs_24 rfl rfl ?_
  refine fm_getI (k := 1) hc K_Pr d_Pr_doPairs_25 q_124 rfl (by decide) (by omega) (by decide) (by decide) (by decide) rfl ?_
  refine fm_top (congrArg Value.int hcd) ?_
  refine fm_tableIn (off := 107) (tgt := 135) hc d_Pr_doPairs_28 (by decide) (by decide) rfl rfl ?_
  refine fm_aload_n hc d_Pr_doPairs_135 rfl rfl ?_
  refine fm_aload_n hc d_Pr_doPairs_136 rfl rfl ?_
  refine fm_getL (k := 3) hc K_Pr d_Pr_doPairs_137 q_126 rfl (by decide) (by omega) (by decide) (by decide) (by decide) rfl ?_
  refine fm_top (congrArg Value.long hlw) ?_
  refine fm_aload_n hc d_Pr_doPairs_140 rfl rfl ?_
  refine fm_getL (k := 4) hc K_Pr d_Pr_doPairs_141 q_127 rfl (by decide) (by omega) (by decide) (by decide) (by decide) rfl ?_
  refine fm_top (congrArg Value.long hu) ?_
  refine fm_lcmp hc d_Pr_doPairs_144 ?_
  refine fm_if_ne (tgt := 152) hc d_Pr_doPairs_145 rfl (fun _ => ?_) (fun g => absurd g (fun g => h1 ((lg_cmp_eq _ _).mp g)))
  refine fm_lconst (v := 0) hc d_Pr_doPairs_152 rfl ?_
  refine fm_callV (av := [.long 0]) (rest := []) (ob := tr) (ci := 5) (r0 := ("AgentNet$Traveller", F_Tr, 13)) (y := y_Tr_push) (bytes := b_Tr_push) hc fm_T0_good (fm_EX_st b x) hex q_640 q_8 q_641 q_638 q_639 pd_Tr_push (by omega) tn tl (by decide) rfl rfl (c_push (M := M) (d := d) (by omega) tn t1n tl tl1 ht1 hd hd6) ⟨rfl, rfl, Nat.le_of_ble_eq_true rfl, Nat.le_of_ble_eq_true rfl⟩ ⟨Nat.le_of_ble_eq_true rfl, Nat.le_of_ble_eq_true rfl⟩ d_Pr_doPairs_153 (Nat.le_of_ble_eq_true rfl) (fun r n2 M2 hp => ?_)
  obtain ⟨rfl, hq1, hq2⟩ := hp
  replace hq1 := hq1.symm
  replace hq2 := hq2.symm
  subst hq1 hq2
  refine fm_cnt (z' := (0, 0)) rfl (fm_st (st' := []) rfl ?_)
  refine fm_goto (tgt := 159) hc d_Pr_doPairs_156 rfl ?_
  refine fm_iconst (v := nI 0) hc d_Pr_doPairs_159 rfl ?_
  exact fm_iret hc hr d_Pr_doPairs_160 (Nat.le_refl _) (Nat.le_refl _) ⟨rfl, rfl, rfl⟩
theorem c_pairs_14i {l : Launch} {b : Nat} {x : Nat → Nat} {D : va_G} {dA : Nat → ClassId} {tr d np : Nat}  {u64 l64 : Int64} {n : Nat} {M : fm_M} (hn : 586 ≤ n) (t8 : 70 ≤ tr) (tn : tr < n) (t1n : tr + 1 < n) (t2n : tr + 2 < n) (t3n : tr + 3 < n) (tl : (fm_lay tr).1 = 5) (tl1 : fm_lay (tr + 1) = (110, 6)) (tl2 : fm_lay (tr + 2) = (110, 8)) (tl3 : fm_lay (tr + 3) = (110, 8)) (ht1 : M.2.2 tr 10 = some (tr + 1)) (ht2 : M.2.2 tr 11 = some (tr + 2)) (ht3 : M.2.2 tr 12 = some (tr + 3)) (hcd : M.1 60 1 = nI 14) (hlw : M.2.1 60 3 = l64) (hln : l64 < 1099511627776) (hu : M.2.1 60 4 = u64) (hq : M.1 tr 9 = nI np) (hq8 : np < 8) (hd : M.1 tr 8 = nI d) (hd6 : d < 6) : Met l y_Pr_doPairs (Cond.code y_Pr_doPairs b_Pr_doPairs 3 (some .int) :: fm_T0) ({ frames := 2, cells := 0, slots := 0, locals := 60 }) (fm_Pc fm_lay fm_nf fm_fk fm_cl b x D dA (fm_tys dA) (fm_EX b x) false [.ref 60, .ref tr] n M) (fm_Qc fm_lay fm_nf fm_fk fm_cl b x D dA (fun r n' M' => r = some (.int (nI 0)) ∧ n' = n ∧ M' = fm_put1 (fm_put1 (fm_put2 (fm_put2 (fm_put2 M (tr + 2) np l64) (tr + 3) np u64) (tr + 1) d (1099511627776 + (nI np).toInt64)) tr 8 (nI (d + 1))) tr 9 (nI (np + 1)))) 0 0 (fm_A b) := by
  refine fm_enter (by decide) (Nat.le_of_ble_eq_true rfl) ?_
  intro p e s m args below meth c9 hc hr hnm hex htg
  refine fm_aload_n hc d_Pr_doPairs_0 rfl rfl ?_
  refine fm_getL (k := 3) hc K_Pr d_Pr_doPairs_1 q_126 rfl (by decide) (by omega) (by decide) (by decide) (by decide) rfl ?_
  refine fm_top (congrArg Value.long hlw) ?_
  refine fm_callSN (av := [.long l64]) (rest := []) (y := y_An_isPair) (bytes := b_An_isPair) hc fm_T0_good (fm_EX_st b x) hex q_427 q_1 (nx_12 hex) q_426 pd_An_isPair (c_isPair_no hln) ⟨rfl, rfl, Nat.le_of_ble_eq_true rfl, Nat.le_of_ble_eq_true rfl⟩ ⟨Nat.le_of_ble_eq_true rfl, Nat.le_of_ble_eq_true rfl⟩ d_Pr_doPairs_4 (Nat.le_of_ble_eq_true rfl) (fun r n2 M2 hp => ?_)
  obtain ⟨rfl, hq1, hq2⟩ := hp
  replace hq1 := hq1.symm
  replace hq2 := hq2.symm
  subst hq1 hq2
  refine fm_cnt (z' := (0, 0)) rfl (fm_st (st' := [.int (nI 0)]) rfl ?_)
  refine fm_if_eq (tgt := 22) hc d_Pr_doPairs_7 rfl (fun _ => ?_) (fun g => absurd (by decide) g)
  refine fm_iconst (v := nI 0) hc d_Pr_doPairs_22 rfl ?_
  refine fm_istore_n (lv' := [(2, .int (nI 0)), (0, .ref 60), (1, .ref tr)]) hc d_Pr_doPairs_23 rfl (by decide) rfl ?_
  refine fm_aload_n hc d_Pr_doPairs_24 rfl rfl ?_
  refine fm_getI (k := 1) hc K_Pr d_Pr_doPairs_25 q_124 rfl (by decide) (by omega) (by decide) (by decide) (by decide) rfl ?_
  refine fm_top (congrArg Value.int hcd) ?_
  refine fm_tableIn (off := 40) (tgt := 68) hc d_Pr_doPairs_28 (by decide) (by decide) rfl rfl ?_
  refine fm_aload_n hc d_Pr_doPairs_68 rfl rfl ?_
  refine fm_aload_n hc d_Pr_doPairs_69 rfl rfl ?_
  refine fm_getL (k := 3) hc K_Pr d_Pr_doPairs_70 q_126 rfl (by decide) (by omega) (by decide) (by decide) (by decide) rfl ?_
  refine fm_top (congrArg Value.long hlw) ?_
  refine fm_aload_n hc d_Pr_doPairs_73 rfl rfl ?_
  refine fm_getL (k := 4) hc K_Pr d_Pr_doPairs_74 q_127 rfl (by decide) (by omega) (by decide) (by decide) (by decide) rfl ?_
  refine fm_top (congrArg Value.long hu) ?_
  refine fm_callV (av := [.long l64, .long u64]) (rest := []) (ob := tr) (ci := 5) (r0 := ("AgentNet$Traveller", F_Tr, 13)) (y := y_Tr_pushPair) (bytes := b_Tr_pushPair) hc fm_T0_good (fm_EX_st b x) hex q_635 q_8 q_632 q_633 q_634 pd_Tr_pushPair (by omega) tn tl (by decide) rfl rfl (c_pushPair hn t8 tn t1n t2n t3n tl tl1 tl2 tl3 ht1 ht2 ht3 hq hq8 hd hd6) ⟨rfl, rfl, Nat.le_of_ble_eq_true rfl, Nat.le_of_ble_eq_true rfl⟩ ⟨Nat.le_of_ble_eq_true rfl, Nat.le_of_ble_eq_true rfl⟩ d_Pr_doPairs_77 (Nat.le_of_ble_eq_true rfl) (fun r n2 M2 hp => ?_)
  obtain ⟨rfl, hq1, hq2⟩ := hp
  replace hq1 := hq1.symm
  replace hq2 := hq2.symm
  subst hq1 hq2
  refine fm_cnt (z' := (0, 0)) rfl (fm_st (st' := []) rfl ?_)
  refine fm_goto (tgt := 159) hc d_Pr_doPairs_80 rfl ?_
  refine fm_iconst (v := nI 0) hc d_Pr_doPairs_159 rfl ?_
  exact fm_iret hc hr d_Pr_doPairs_160 (Nat.le_refl _) (Nat.le_refl _) ⟨rfl, rfl, rfl⟩
theorem c_pairs_19ie {l : Launch} {b : Nat} {x : Nat → Nat} {D : va_G} {dA : Nat → ClassId} {tr d : Nat}  {u64 l64 : Int64} {n : Nat} {M : fm_M} (hn : 586 ≤ n) (t8 : 70 ≤ tr) (tn : tr < n) (t1n : tr + 1 < n) (t2n : tr + 2 < n) (t3n : tr + 3 < n) (tl : (fm_lay tr).1 = 5) (tl1 : fm_lay (tr + 1) = (110, 6)) (tl2 : fm_lay (tr + 2) = (110, 8)) (tl3 : fm_lay (tr + 3) = (110, 8)) (ht1 : M.2.2 tr 10 = some (tr + 1)) (ht2 : M.2.2 tr 11 = some (tr + 2)) (ht3 : M.2.2 tr 12 = some (tr + 3)) (hcd : M.1 60 1 = nI 19) (hlw : M.2.1 60 3 = l64) (hln : l64 < 1099511627776) (hu : M.2.1 60 4 = u64) (hd : M.1 tr 8 = nI d) (hd6 : d < 6) (h1 : l64 = u64) : Met l y_Pr_doPairs (Cond.code y_Pr_doPairs b_Pr_doPairs 3 (some .int) :: fm_T0) ({ frames := 2, cells := 0, slots := 0, locals := 60 }) (fm_Pc fm_lay fm_nf fm_fk fm_cl b x D dA (fm_tys dA) (fm_EX b x) false [.ref 60, .ref tr] n M) (fm_Qc fm_lay fm_nf fm_fk fm_cl b x D dA (fun r n' M' => r = some (.int (nI 0)) ∧ n' = n ∧ M' = fm_put1 (fm_put2 (M) (tr + 1) d 1) tr 8 (nI (d + 1)))) 0 0 (fm_A b) := by
  refine fm_enter (by decide) (Nat.le_of_ble_eq_true rfl) ?_
  intro p e s m args below meth c9 hc hr hnm hex htg
  refine fm_aload_n hc d_Pr_doPairs_0 rfl rfl ?_
  refine fm_getL (k := 3) hc K_Pr d_Pr_doPairs_1 q_126 rfl (by decide) (by omega) (by decide) (by decide) (by decide) rfl ?_
  refine fm_top (congrArg Value.long hlw) ?_
  refine fm_callSN (av := [.long l64]) (rest := []) (y := y_An_isPair) (bytes := b_An_isPair) hc fm_T0_good (fm_EX_st b x) hex q_427 q_1 (nx_12 hex) q_426 pd_An_isPair (c_isPair_no hln) ⟨rfl, rfl, Nat.le_of_ble_eq_true rfl, Nat.le_of_ble_eq_true rfl⟩ ⟨Nat.le_of_ble_eq_true rfl, Nat.le_of_ble_eq_true rfl⟩ d_Pr_doPairs_4 (Nat.le_of_ble_eq_true rfl) (fun r n2 M2 hp => ?_)
  obtain ⟨rfl, hq1, hq2⟩ := hp
  replace hq1 := hq1.symm
  replace hq2 := hq2.symm
  subst hq1 hq2
  refine fm_cnt (z' := (0, 0)) rfl (fm_st (st' := [.int (nI 0)]) rfl ?_)
  refine fm_if_eq (tgt := 22) hc d_Pr_doPairs_7 rfl (fun _ => ?_) (fun g => absurd (by decide) g)
  refine fm_iconst (v := nI 0) hc d_Pr_doPairs_22 rfl ?_
  refine fm_istore_n (lv' := [(2, .int (nI 0)), (0, .ref 60), (1, .ref tr)]) hc d_Pr_doPairs_23 rfl (by decide) rfl ?_
  refine fm_aload_n hc d_Pr_doPairs_24 rfl rfl ?_
  refine fm_getI (k := 1) hc K_Pr d_Pr_doPairs_25 q_124 rfl (by decide) (by omega) (by decide) (by decide) (by decide) rfl ?_
  refine fm_top (congrArg Value.int hcd) ?_
  refine fm_tableIn (off := 107) (tgt := 135) hc d_Pr_doPairs_28 (by decide) (by decide) rfl rfl ?_
  refine fm_aload_n hc d_Pr_doPairs_135 rfl rfl ?_
  refine fm_aload_n hc d_Pr_doPairs_136 rfl rfl ?_
  refine fm_getL (k := 3) hc K_Pr d_Pr_doPairs_137 q_126 rfl (by decide) (by omega) (by decide) (by decide) (by decide) rfl ?_
  refine fm_top (congrArg Value.long hlw) ?_
  refine fm_aload_n hc d_Pr_doPairs_140 rfl rfl ?_
  refine fm_getL (k := 4) hc K_Pr d_Pr_doPairs_141 q_127 rfl (by decide) (by omega) (by decide) (by decide) (by decide) rfl ?_
  refine fm_top (congrArg Value.long hu) ?_
  refine fm_lcmp hc d_Pr_doPairs_144 ?_
  refine fm_if_ne (tgt := 152) hc d_Pr_doPairs_145 rfl (fun g => absurd ((lg_cmp_eq _ _).mpr h1) g) (fun _ => ?_)
  refine fm_lconst (v := 1) hc d_Pr_doPairs_148 rfl ?_
  refine fm_goto (tgt := 153) hc d_Pr_doPairs_149 rfl ?_
  refine fm_callV (av := [.long 1]) (rest := []) (ob := tr) (ci := 5) (r0 := ("AgentNet$Traveller", F_Tr, 13)) (y := y_Tr_push) (bytes := b_Tr_push) hc fm_T0_good (fm_EX_st b x) hex q_640 q_8 q_641 q_638 q_639 pd_Tr_push (by omega) tn tl (by decide) rfl rfl (c_push (M := M) (d := d) (by omega) tn t1n tl tl1 ht1 hd hd6) ⟨rfl, rfl, Nat.le_of_ble_eq_true rfl, Nat.le_of_ble_eq_true rfl⟩ ⟨Nat.le_of_ble_eq_true rfl, Nat.le_of_ble_eq_true rfl⟩ d_Pr_doPairs_153 (Nat.le_of_ble_eq_true rfl) (fun r n2 M2 hp => ?_)
  obtain ⟨rfl, hq1, hq2⟩ := hp
  replace hq1 := hq1.symm
  replace hq2 := hq2.symm
  subst hq1 hq2
  refine fm_cnt (z' := (0, 0)) rfl (fm_st (st' := []) rfl ?_)
  refine fm_goto (tgt := 159) hc d_Pr_doPairs_156 rfl ?_
  refine fm_iconst (v := nI 0) hc d_Pr_doPairs_159 rfl ?_
  exact fm_iret hc hr d_Pr_doPairs_160 (Nat.le_refl _) (Nat.le_refl _) ⟨rfl, rfl, rfl⟩
theorem c_pairs_19in {l : Launch} {b : Nat} {x : Nat → Nat} {D : va_G} {dA : Nat → ClassId} {tr d : Nat}  {u64 l64 : Int64} {n : Nat} {M : fm_M} (hn : 586 ≤ n) (t8 : 70 ≤ tr) (tn : tr < n) (t1n : tr + 1 < n) (t2n : tr + 2 < n) (t3n : tr + 3 < n) (tl : (fm_lay tr).1 = 5) (tl1 : fm_lay (tr + 1) = (110, 6)) (tl2 : fm_lay (tr + 2) = (110, 8)) (tl3 : fm_lay (tr + 3) = (110, 8)) (ht1 : M.2.2 tr 10 = some (tr + 1)) (ht2 : M.2.2 tr 11 = some (tr + 2)) (ht3 : M.2.2 tr 12 = some (tr + 3)) (hcd : M.1 60 1 = nI 19) (hlw : M.2.1 60 3 = l64) (hln : l64 < 1099511627776) (hu : M.2.1 60 4 = u64) (hd : M.1 tr 8 = nI d) (hd6 : d < 6) (h1 : ¬ l64 = u64) : Met l y_Pr_doPairs (Cond.code y_Pr_doPairs b_Pr_doPairs 3 (some .int) :: fm_T0) ({ frames := 2, cells := 0, slots := 0, locals := 60 }) (fm_Pc fm_lay fm_nf fm_fk fm_cl b x D dA (fm_tys dA) (fm_EX b x) false [.ref 60, .ref tr] n M) (fm_Qc fm_lay fm_nf fm_fk fm_cl b x D dA (fun r n' M' => r = some (.int (nI 0)) ∧ n' = n ∧ M' = fm_put1 (fm_put2 (M) (tr + 1) d 0) tr 8 (nI (d + 1)))) 0 0 (fm_A b) := by
  refine fm_enter (by decide) (Nat.le_of_ble_eq_true rfl) ?_
  intro p e s m args below meth c9 hc hr hnm hex htg
  refine fm_aload_n hc d_Pr_doPairs_0 rfl rfl ?_
  refine fm_getL (k := 3) hc K_Pr d_Pr_doPairs_1 q_126 rfl (by decide) (by omega) (by decide) (by decide) (by decide) rfl ?_
  refine fm_top (congrArg Value.long hlw) ?_
  refine fm_callSN (av := [.long l64]) (rest := []) (y := y_An_isPair) (bytes := b_An_isPair) hc fm_T0_good (fm_EX_st b x) hex q_427 q_1 (nx_12 hex) q_426 pd_An_isPair (c_isPair_no hln) ⟨rfl, rfl, Nat.le_of_ble_eq_true rfl, Nat.le_of_ble_eq_true rfl⟩ ⟨Nat.le_of_ble_eq_true rfl, Nat.le_of_ble_eq_true rfl⟩ d_Pr_doPairs_4 (Nat.le_of_ble_eq_true rfl) (fun r n2 M2 hp => ?_)
  obtain ⟨rfl, hq1, hq2⟩ := hp
  replace hq1 := hq1.symm
  replace hq2 := hq2.symm
  subst hq1 hq2
  refine fm_cnt (z' := (0, 0)) rfl (fm_st (st' := [.int (nI 0)]) rfl ?_)
  refine fm_if_eq (tgt := 22) hc d_Pr_doPairs_7 rfl (fun _ => ?_) (fun g => absurd (by decide) g)
  refine fm_iconst (v := nI 0) hc d_Pr_doPairs_22 rfl ?_
  refine fm_istore_n (lv' := [(2, .int (nI 0)), (0, .ref 60), (1, .ref tr)]) hc d_Pr_doPairs_23 rfl (by decide) rfl ?_
  refine fm_aload_n hc d_Pr_doPairs_24 rfl rfl ?_
  refine fm_getI (k := 1) hc K_Pr d_Pr_doPairs_25 q_124 rfl (by decide) (by omega) (by decide) (by decide) (by decide) rfl ?_
  refine fm_top (congrArg Value.int hcd) ?_
  refine fm_tableIn (off := 107) (tgt := 135) hc d_Pr_doPairs_28 (by decide) (by decide) rfl rfl ?_
  refine fm_aload_n hc d_Pr_doPairs_135 rfl rfl ?_
  refine fm_aload_n hc d_Pr_doPairs_136 rfl rfl ?_
  refine fm_getL (k := 3) hc K_Pr d_Pr_doPairs_137 q_126 rfl (by decide) (by omega) (by decide) (by decide) (by decide) rfl ?_
  refine fm_top (congrArg Value.long hlw) ?_
  refine fm_aload_n hc d_Pr_doPairs_140 rfl rfl ?_
  refine fm_getL (k := 4) hc K_Pr d_Pr_doPairs_141 q_127 rfl (by decide) (by omega) (by decide) (by decide) (by decide) rfl ?_
  refine fm_top (congrArg Value.long hu) ?_
  refine fm_lcmp hc d_Pr_doPairs_144 ?_
  refine fm_if_ne (tgt := 152) hc d_Pr_doPairs_145 rfl (fun _ => ?_) (fun g => absurd g (fun g => h1 ((lg_cmp_eq _ _).mp g)))
  refine fm_lconst (v := 0) hc d_Pr_doPairs_152 rfl ?_
  refine fm_callV (av := [.long 0]) (rest := []) (ob := tr) (ci := 5) (r0 := ("AgentNet$Traveller", F_Tr, 13)) (y := y_Tr_push) (bytes := b_Tr_push) hc fm_T0_good (fm_EX_st b x) hex q_640 q_8 q_641 q_638 q_639 pd_Tr_push (by omega) tn tl (by decide) rfl rfl (c_push (M := M) (d := d) (by omega) tn t1n tl tl1 ht1 hd hd6) ⟨rfl, rfl, Nat.le_of_ble_eq_true rfl, Nat.le_of_ble_eq_true rfl⟩ ⟨Nat.le_of_ble_eq_true rfl, Nat.le_of_ble_eq_true rfl⟩ d_Pr_doPairs_153 (Nat.le_of_ble_eq_true rfl) (fun r n2 M2 hp => ?_)
  obtain ⟨rfl, hq1, hq2⟩ := hp
  replace hq1 := hq1.symm
  replace hq2 := hq2.symm
  subst hq1 hq2
  refine fm_cnt (z' := (0, 0)) rfl (fm_st (st' := []) rfl ?_)
  refine fm_goto (tgt := 159) hc d_Pr_doPairs_156 rfl ?_
  refine fm_iconst (v := nI 0) hc d_Pr_doPairs_159 rfl ?_
  exact fm_iret hc hr d_Pr_doPairs_160 (Nat.le_refl _) (Nat.le_refl _) ⟨rfl, rfl, rfl⟩
theorem c_pairs_15 {l : Launch} {b : Nat} {x : Nat → Nat} {D : va_G} {dA : Nat → ClassId} {tr d k : Nat}  {u64 : Int64} {n : Nat} {M : fm_M} (hn : 586 ≤ n) (t8 : 70 ≤ tr) (tn : tr < n) (t1n : tr + 1 < n) (t2n : tr + 2 < n) (t3n : tr + 3 < n) (tl : (fm_lay tr).1 = 5) (tl1 : fm_lay (tr + 1) = (110, 6)) (tl2 : fm_lay (tr + 2) = (110, 8)) (tl3 : fm_lay (tr + 3) = (110, 8)) (ht1 : M.2.2 tr 10 = some (tr + 1)) (ht2 : M.2.2 tr 11 = some (tr + 2)) (ht3 : M.2.2 tr 12 = some (tr + 3)) (hcd : M.1 60 1 = nI 15) (hlw : M.2.1 60 3 = 1099511627776 + (nI k).toInt64) (hk : k < 16) (hu : M.2.1 60 4 = u64) (hd : M.1 tr 8 = nI d) (hd6 : d < 6) (hk8 : k < 8) : Met l y_Pr_doPairs (Cond.code y_Pr_doPairs b_Pr_doPairs 3 (some .int) :: fm_T0) ({ frames := 2, cells := 0, slots := 0, locals := 60 }) (fm_Pc fm_lay fm_nf fm_fk fm_cl b x D dA (fm_tys dA) (fm_EX b x) false [.ref 60, .ref tr] n M) (fm_Qc fm_lay fm_nf fm_fk fm_cl b x D dA (fun r n' M' => r = some (.int (nI 0)) ∧ n' = n ∧ M' = fm_put1 (fm_put2 (M) (tr + 1) d ((M.2.1 (tr + 2) k))) tr 8 (nI (d + 1)))) 0 0 (fm_A b) := by
  refine fm_enter (by decide) (Nat.le_of_ble_eq_true rfl) ?_
  intro p e s m args below meth c9 hc hr hnm hex htg
  refine fm_aload_n hc d_Pr_doPairs_0 rfl rfl ?_
  refine fm_getL (k := 3) hc K_Pr d_Pr_doPairs_1 q_126 rfl (by decide) (by omega) (by decide) (by decide) (by decide) rfl ?_
  refine fm_top (congrArg Value.long hlw) ?_
  refine fm_callSN (av := [.long (1099511627776 + (nI k).toInt64)]) (rest := []) (y := y_An_isPair) (bytes := b_An_isPair) hc fm_T0_good (fm_EX_st b x) hex q_427 q_1 (nx_12 hex) q_426 pd_An_isPair (c_isPair_ok (vx_pair k hk)) ⟨rfl, rfl, Nat.le_of_ble_eq_true rfl, Nat.le_of_ble_eq_true rfl⟩ ⟨Nat.le_of_ble_eq_true rfl, Nat.le_of_ble_eq_true rfl⟩ d_Pr_doPairs_4 (Nat.le_of_ble_eq_true rfl) (fun r n2 M2 hp => ?_)
  obtain ⟨rfl, hq1, hq2⟩ := hp
  replace hq1 := hq1.symm
  replace hq2 := hq2.symm
  subst hq1 hq2
  refine fm_cnt (z' := (0, 0)) rfl (fm_st (st' := [.int (nI 1)]) rfl ?_)
  refine fm_if_eq (tgt := 22) hc d_Pr_doPairs_7 rfl (fun g => absurd g (by decide)) (fun _ => ?_)
  refine fm_aload_n hc d_Pr_doPairs_10 rfl rfl ?_
  refine fm_getL (k := 3) hc K_Pr d_Pr_doPairs_11 q_126 rfl (by decide) (by omega) (by decide) (by decide) (by decide) rfl ?_
  refine fm_top (congrArg Value.long hlw) ?_
  refine fm_ldc2 (v := 1099511627776) hc d_Pr_doPairs_14 q_631 ?_
  refine fm_lsub hc d_Pr_doPairs_17 ?_
  refine fm_l2i hc d_Pr_doPairs_18 ?_
  refine fm_top (congrArg Value.int (vx_idx k hk)) ?_
  refine fm_goto (tgt := 23) hc d_Pr_doPairs_19 rfl ?_
  refine fm_istore_n (lv' := [(2, .int (nI k)), (0, .ref 60), (1, .ref tr)]) hc d_Pr_doPairs_23 rfl (by decide) rfl ?_
  refine fm_aload_n hc d_Pr_doPairs_24 rfl rfl ?_
  refine fm_getI (k := 1) hc K_Pr d_Pr_doPairs_25 q_124 rfl (by decide) (by omega) (by decide) (by decide) (by decide) rfl ?_
  refine fm_top (congrArg Value.int hcd) ?_
  refine fm_tableIn (off := 55) (tgt := 83) hc d_Pr_doPairs_28 (by decide) (by decide) rfl rfl ?_
  refine fm_aload_n hc d_Pr_doPairs_83 rfl rfl ?_
  refine fm_aload_n hc d_Pr_doPairs_84 rfl rfl ?_
  refine fm_getR (k := 11) (q := tr + 2) hc K_Tr d_Pr_doPairs_85 q_223 rfl (by omega) tn tl (by decide) (by decide) rfl ht2 ?_
  refine fm_iload_n hc d_Pr_doPairs_88 rfl rfl ?_
  refine fm_lald (j := k) (len := 8) hc 3 d_Pr_doPairs_89 (by omega) t2n tl2 rfl (by omega) (by decide) ?_
  refine fm_callV (av := [.long (M.2.1 (tr + 2) k)]) (rest := []) (ob := tr) (ci := 5) (r0 := ("AgentNet$Traveller", F_Tr, 13)) (y := y_Tr_push) (bytes := b_Tr_push) hc fm_T0_good (fm_EX_st b x) hex q_640 q_8 q_641 q_638 q_639 pd_Tr_push (by omega) tn tl (by decide) rfl rfl (c_push (M := M) (d := d) (by omega) tn t1n tl tl1 ht1 hd hd6) ⟨rfl, rfl, Nat.le_of_ble_eq_true rfl, Nat.le_of_ble_eq_true rfl⟩ ⟨Nat.le_of_ble_eq_true rfl, Nat.le_of_ble_eq_true rfl⟩ d_Pr_doPairs_90 (Nat.le_of_ble_eq_true rfl) (fun r n2 M2 hp => ?_)
  obtain ⟨rfl, hq1, hq2⟩ := hp
  replace hq1 := hq1.symm
  replace hq2 := hq2.symm
  subst hq1 hq2
  refine fm_cnt (z' := (0, 0)) rfl (fm_st (st' := []) rfl ?_)
  refine fm_goto (tgt := 159) hc d_Pr_doPairs_93 rfl ?_
  refine fm_iconst (v := nI 0) hc d_Pr_doPairs_159 rfl ?_
  exact fm_iret hc hr d_Pr_doPairs_160 (Nat.le_refl _) (Nat.le_refl _) ⟨rfl, rfl, rfl⟩
theorem c_pairs_16 {l : Launch} {b : Nat} {x : Nat → Nat} {D : va_G} {dA : Nat → ClassId} {tr d k : Nat}  {u64 : Int64} {n : Nat} {M : fm_M} (hn : 586 ≤ n) (t8 : 70 ≤ tr) (tn : tr < n) (t1n : tr + 1 < n) (t2n : tr + 2 < n) (t3n : tr + 3 < n) (tl : (fm_lay tr).1 = 5) (tl1 : fm_lay (tr + 1) = (110, 6)) (tl2 : fm_lay (tr + 2) = (110, 8)) (tl3 : fm_lay (tr + 3) = (110, 8)) (ht1 : M.2.2 tr 10 = some (tr + 1)) (ht2 : M.2.2 tr 11 = some (tr + 2)) (ht3 : M.2.2 tr 12 = some (tr + 3)) (hcd : M.1 60 1 = nI 16) (hlw : M.2.1 60 3 = 1099511627776 + (nI k).toInt64) (hk : k < 16) (hu : M.2.1 60 4 = u64) (hd : M.1 tr 8 = nI d) (hd6 : d < 6) (hk8 : k < 8) : Met l y_Pr_doPairs (Cond.code y_Pr_doPairs b_Pr_doPairs 3 (some .int) :: fm_T0) ({ frames := 2, cells := 0, slots := 0, locals := 60 }) (fm_Pc fm_lay fm_nf fm_fk fm_cl b x D dA (fm_tys dA) (fm_EX b x) false [.ref 60, .ref tr] n M) (fm_Qc fm_lay fm_nf fm_fk fm_cl b x D dA (fun r n' M' => r = some (.int (nI 0)) ∧ n' = n ∧ M' = fm_put1 (fm_put2 (M) (tr + 1) d ((M.2.1 (tr + 3) k))) tr 8 (nI (d + 1)))) 0 0 (fm_A b) := by
  refine fm_enter (by decide) (Nat.le_of_ble_eq_true rfl) ?_
  intro p e s m args below meth c9 hc hr hnm hex htg
  refine fm_aload_n hc d_Pr_doPairs_0 rfl rfl ?_
  refine fm_getL (k := 3) hc K_Pr d_Pr_doPairs_1 q_126 rfl (by decide) (by omega) (by decide) (by decide) (by decide) rfl ?_
  refine fm_top (congrArg Value.long hlw) ?_
  refine fm_callSN (av := [.long (1099511627776 + (nI k).toInt64)]) (rest := []) (y := y_An_isPair) (bytes := b_An_isPair) hc fm_T0_good (fm_EX_st b x) hex q_427 q_1 (nx_12 hex) q_426 pd_An_isPair (c_isPair_ok (vx_pair k hk)) ⟨rfl, rfl, Nat.le_of_ble_eq_true rfl, Nat.le_of_ble_eq_true rfl⟩ ⟨Nat.le_of_ble_eq_true rfl, Nat.le_of_ble_eq_true rfl⟩ d_Pr_doPairs_4 (Nat.le_of_ble_eq_true rfl) (fun r n2 M2 hp => ?_)
  obtain ⟨rfl, hq1, hq2⟩ := hp
  replace hq1 := hq1.symm
  replace hq2 := hq2.symm
  subst hq1 hq2
  refine fm_cnt (z' := (0, 0)) rfl (fm_st (st' := [.int (nI 1)]) rfl ?_)
  refine fm_if_eq (tgt := 22) hc d_Pr_doPairs_7 rfl (fun g => absurd g (by decide)) (fun _ => ?_)
  refine fm_aload_n hc d_Pr_doPairs_10 rfl rfl ?_
  refine fm_getL (k := 3) hc K_Pr d_Pr_doPairs_11 q_126 rfl (by decide) (by omega) (by decide) (by decide) (by decide) rfl ?_
  refine fm_top (congrArg Value.long hlw) ?_
  refine fm_ldc2 (v := 1099511627776) hc d_Pr_doPairs_14 q_631 ?_
  refine fm_lsub hc d_Pr_doPairs_17 ?_
  refine fm_l2i hc d_Pr_doPairs_18 ?_
  refine fm_top (congrArg Value.int (vx_idx k hk)) ?_
  refine fm_goto (tgt := 23) hc d_Pr_doPairs_19 rfl ?_
  refine fm_istore_n (lv' := [(2, .int (nI k)), (0, .ref 60), (1, .ref tr)]) hc d_Pr_doPairs_23 rfl (by decide) rfl ?_
  refine fm_aload_n hc d_Pr_doPairs_24 rfl rfl ?_
  refine fm_getI (k := 1) hc K_Pr d_Pr_doPairs_25 q_124 rfl (by decide) (by omega) (by decide) (by decide) (by decide) rfl ?_
  refine fm_top (congrArg Value.int hcd) ?_
  refine fm_tableIn (off := 68) (tgt := 96) hc d_Pr_doPairs_28 (by decide) (by decide) rfl rfl ?_
  refine fm_aload_n hc d_Pr_doPairs_96 rfl rfl ?_
  refine fm_aload_n hc d_Pr_doPairs_97 rfl rfl ?_
  refine fm_getR (k := 12) (q := tr + 3) hc K_Tr d_Pr_doPairs_98 q_227 rfl (by omega) tn tl (by decide) (by decide) rfl ht3 ?_
  refine fm_iload_n hc d_Pr_doPairs_101 rfl rfl ?_
  refine fm_lald (j := k) (len := 8) hc 3 d_Pr_doPairs_102 (by omega) t3n tl3 rfl (by omega) (by decide) ?_
  refine fm_callV (av := [.long (M.2.1 (tr + 3) k)]) (rest := []) (ob := tr) (ci := 5) (r0 := ("AgentNet$Traveller", F_Tr, 13)) (y := y_Tr_push) (bytes := b_Tr_push) hc fm_T0_good (fm_EX_st b x) hex q_640 q_8 q_641 q_638 q_639 pd_Tr_push (by omega) tn tl (by decide) rfl rfl (c_push (M := M) (d := d) (by omega) tn t1n tl tl1 ht1 hd hd6) ⟨rfl, rfl, Nat.le_of_ble_eq_true rfl, Nat.le_of_ble_eq_true rfl⟩ ⟨Nat.le_of_ble_eq_true rfl, Nat.le_of_ble_eq_true rfl⟩ d_Pr_doPairs_103 (Nat.le_of_ble_eq_true rfl) (fun r n2 M2 hp => ?_)
  obtain ⟨rfl, hq1, hq2⟩ := hp
  replace hq1 := hq1.symm
  replace hq2 := hq2.symm
  subst hq1 hq2
  refine fm_cnt (z' := (0, 0)) rfl (fm_st (st' := []) rfl ?_)
  refine fm_goto (tgt := 159) hc d_Pr_doPairs_106 rfl ?_
  refine fm_iconst (v := nI 0) hc d_Pr_doPairs_159 rfl ?_
  exact fm_iret hc hr d_Pr_doPairs_160 (Nat.le_refl _) (Nat.le_refl _) ⟨rfl, rfl, rfl⟩
theorem c_pairs_17 {l : Launch} {b : Nat} {x : Nat → Nat} {D : va_G} {dA : Nat → ClassId} {tr k : Nat}  {u64 : Int64} {n : Nat} {M : fm_M} (hn : 586 ≤ n) (t8 : 70 ≤ tr) (tn : tr < n) (t1n : tr + 1 < n) (t2n : tr + 2 < n) (t3n : tr + 3 < n) (tl : (fm_lay tr).1 = 5) (tl1 : fm_lay (tr + 1) = (110, 6)) (tl2 : fm_lay (tr + 2) = (110, 8)) (tl3 : fm_lay (tr + 3) = (110, 8)) (ht1 : M.2.2 tr 10 = some (tr + 1)) (ht2 : M.2.2 tr 11 = some (tr + 2)) (ht3 : M.2.2 tr 12 = some (tr + 3)) (hcd : M.1 60 1 = nI 17) (hlw : M.2.1 60 3 = 1099511627776 + (nI k).toInt64) (hk : k < 16) (hu : M.2.1 60 4 = u64) (hk8 : k < 8) : Met l y_Pr_doPairs (Cond.code y_Pr_doPairs b_Pr_doPairs 3 (some .int) :: fm_T0) ({ frames := 2, cells := 0, slots := 0, locals := 60 }) (fm_Pc fm_lay fm_nf fm_fk fm_cl b x D dA (fm_tys dA) (fm_EX b x) false [.ref 60, .ref tr] n M) (fm_Qc fm_lay fm_nf fm_fk fm_cl b x D dA (fun r n' M' => r = some (.int (nI 0)) ∧ n' = n ∧ M' = fm_put2 M (tr + 2) k u64)) 0 0 (fm_A b) := by
  refine fm_enter (by decide) (Nat.le_of_ble_eq_true rfl) ?_
  intro p e s m args below meth c9 hc hr hnm hex htg
  refine fm_aload_n hc d_Pr_doPairs_0 rfl rfl ?_
  refine fm_getL (k := 3) hc K_Pr d_Pr_doPairs_1 q_126 rfl (by decide) (by omega) (by decide) (by decide) (by decide) rfl ?_
  refine fm_top (congrArg Value.long hlw) ?_
  refine fm_callSN (av := [.long (1099511627776 + (nI k).toInt64)]) (rest := []) (y := y_An_isPair) (bytes := b_An_isPair) hc fm_T0_good (fm_EX_st b x) hex q_427 q_1 (nx_12 hex) q_426 pd_An_isPair (c_isPair_ok (vx_pair k hk)) ⟨rfl, rfl, Nat.le_of_ble_eq_true rfl, Nat.le_of_ble_eq_true rfl⟩ ⟨Nat.le_of_ble_eq_true rfl, Nat.le_of_ble_eq_true rfl⟩ d_Pr_doPairs_4 (Nat.le_of_ble_eq_true rfl) (fun r n2 M2 hp => ?_)
  obtain ⟨rfl, hq1, hq2⟩ := hp
  replace hq1 := hq1.symm
  replace hq2 := hq2.symm
  subst hq1 hq2
  refine fm_cnt (z' := (0, 0)) rfl (fm_st (st' := [.int (nI 1)]) rfl ?_)
  refine fm_if_eq (tgt := 22) hc d_Pr_doPairs_7 rfl (fun g => absurd g (by decide)) (fun _ => ?_)
  refine fm_aload_n hc d_Pr_doPairs_10 rfl rfl ?_
  refine fm_getL (k := 3) hc K_Pr d_Pr_doPairs_11 q_126 rfl (by decide) (by omega) (by decide) (by decide) (by decide) rfl ?_
  refine fm_top (congrArg Value.long hlw) ?_
  refine fm_ldc2 (v := 1099511627776) hc d_Pr_doPairs_14 q_631 ?_
  refine fm_lsub hc d_Pr_doPairs_17 ?_
  refine fm_l2i hc d_Pr_doPairs_18 ?_
  refine fm_top (congrArg Value.int (vx_idx k hk)) ?_
  refine fm_goto (tgt := 23) hc d_Pr_doPairs_19 rfl ?_
  refine fm_istore_n (lv' := [(2, .int (nI k)), (0, .ref 60), (1, .ref tr)]) hc d_Pr_doPairs_23 rfl (by decide) rfl ?_
  refine fm_aload_n hc d_Pr_doPairs_24 rfl rfl ?_
  refine fm_getI (k := 1) hc K_Pr d_Pr_doPairs_25 q_124 rfl (by decide) (by omega) (by decide) (by decide) (by decide) rfl ?_
  refine fm_top (congrArg Value.int hcd) ?_
  refine fm_tableIn (off := 81) (tgt := 109) hc d_Pr_doPairs_28 (by decide) (by decide) rfl rfl ?_
  refine fm_aload_n hc d_Pr_doPairs_109 rfl rfl ?_
  refine fm_getR (k := 11) (q := tr + 2) hc K_Tr d_Pr_doPairs_110 q_223 rfl (by omega) tn tl (by decide) (by decide) rfl ht2 ?_
  refine fm_iload_n hc d_Pr_doPairs_113 rfl rfl ?_
  refine fm_aload_n hc d_Pr_doPairs_114 rfl rfl ?_
  refine fm_getL (k := 4) hc K_Pr d_Pr_doPairs_115 q_127 rfl (by decide) (by omega) (by decide) (by decide) (by decide) rfl ?_
  refine fm_top (congrArg Value.long hu) ?_
  refine fm_last (j := k) (len := 8) (v := u64) hc 3 d_Pr_doPairs_118 (by omega) t2n tl2 rfl (by omega) (by decide) ?_
  refine fm_goto (tgt := 159) hc d_Pr_doPairs_119 rfl ?_
  refine fm_iconst (v := nI 0) hc d_Pr_doPairs_159 rfl ?_
  exact fm_iret hc hr d_Pr_doPairs_160 (Nat.le_refl _) (Nat.le_refl _) ⟨rfl, rfl, rfl⟩
theorem c_pairs_18 {l : Launch} {b : Nat} {x : Nat → Nat} {D : va_G} {dA : Nat → ClassId} {tr k : Nat}  {u64 : Int64} {n : Nat} {M : fm_M} (hn : 586 ≤ n) (t8 : 70 ≤ tr) (tn : tr < n) (t1n : tr + 1 < n) (t2n : tr + 2 < n) (t3n : tr + 3 < n) (tl : (fm_lay tr).1 = 5) (tl1 : fm_lay (tr + 1) = (110, 6)) (tl2 : fm_lay (tr + 2) = (110, 8)) (tl3 : fm_lay (tr + 3) = (110, 8)) (ht1 : M.2.2 tr 10 = some (tr + 1)) (ht2 : M.2.2 tr 11 = some (tr + 2)) (ht3 : M.2.2 tr 12 = some (tr + 3)) (hcd : M.1 60 1 = nI 18) (hlw : M.2.1 60 3 = 1099511627776 + (nI k).toInt64) (hk : k < 16) (hu : M.2.1 60 4 = u64) (hk8 : k < 8) : Met l y_Pr_doPairs (Cond.code y_Pr_doPairs b_Pr_doPairs 3 (some .int) :: fm_T0) ({ frames := 2, cells := 0, slots := 0, locals := 60 }) (fm_Pc fm_lay fm_nf fm_fk fm_cl b x D dA (fm_tys dA) (fm_EX b x) false [.ref 60, .ref tr] n M) (fm_Qc fm_lay fm_nf fm_fk fm_cl b x D dA (fun r n' M' => r = some (.int (nI 0)) ∧ n' = n ∧ M' = fm_put2 M (tr + 3) k u64)) 0 0 (fm_A b) := by
  refine fm_enter (by decide) (Nat.le_of_ble_eq_true rfl) ?_
  intro p e s m args below meth c9 hc hr hnm hex htg
  refine fm_aload_n hc d_Pr_doPairs_0 rfl rfl ?_
  refine fm_getL (k := 3) hc K_Pr d_Pr_doPairs_1 q_126 rfl (by decide) (by omega) (by decide) (by decide) (by decide) rfl ?_
  refine fm_top (congrArg Value.long hlw) ?_
  refine fm_callSN (av := [.long (1099511627776 + (nI k).toInt64)]) (rest := []) (y := y_An_isPair) (bytes := b_An_isPair) hc fm_T0_good (fm_EX_st b x) hex q_427 q_1 (nx_12 hex) q_426 pd_An_isPair (c_isPair_ok (vx_pair k hk)) ⟨rfl, rfl, Nat.le_of_ble_eq_true rfl, Nat.le_of_ble_eq_true rfl⟩ ⟨Nat.le_of_ble_eq_true rfl, Nat.le_of_ble_eq_true rfl⟩ d_Pr_doPairs_4 (Nat.le_of_ble_eq_true rfl) (fun r n2 M2 hp => ?_)
  obtain ⟨rfl, hq1, hq2⟩ := hp
  replace hq1 := hq1.symm
  replace hq2 := hq2.symm
  subst hq1 hq2
  refine fm_cnt (z' := (0, 0)) rfl (fm_st (st' := [.int (nI 1)]) rfl ?_)
  refine fm_if_eq (tgt := 22) hc d_Pr_doPairs_7 rfl (fun g => absurd g (by decide)) (fun _ => ?_)
  refine fm_aload_n hc d_Pr_doPairs_10 rfl rfl ?_
  refine fm_getL (k := 3) hc K_Pr d_Pr_doPairs_11 q_126 rfl (by decide) (by omega) (by decide) (by decide) (by decide) rfl ?_
  refine fm_top (congrArg Value.long hlw) ?_
  refine fm_ldc2 (v := 1099511627776) hc d_Pr_doPairs_14 q_631 ?_
  refine fm_lsub hc d_Pr_doPairs_17 ?_
  refine fm_l2i hc d_Pr_doPairs_18 ?_
  refine fm_top (congrArg Value.int (vx_idx k hk)) ?_
  refine fm_goto (tgt := 23) hc d_Pr_doPairs_19 rfl ?_
  refine fm_istore_n (lv' := [(2, .int (nI k)), (0, .ref 60), (1, .ref tr)]) hc d_Pr_doPairs_23 rfl (by decide) rfl ?_
  refine fm_aload_n hc d_Pr_doPairs_24 rfl rfl ?_
  refine fm_getI (k := 1) hc K_Pr d_Pr_doPairs_25 q_124 rfl (by decide) (by omega) (by decide) (by decide) (by decide) rfl ?_
  refine fm_top (congrArg Value.int hcd) ?_
  refine fm_tableIn (off := 94) (tgt := 122) hc d_Pr_doPairs_28 (by decide) (by decide) rfl rfl ?_
  refine fm_aload_n hc d_Pr_doPairs_122 rfl rfl ?_
  refine fm_getR (k := 12) (q := tr + 3) hc K_Tr d_Pr_doPairs_123 q_227 rfl (by omega) tn tl (by decide) (by decide) rfl ht3 ?_
  refine fm_iload_n hc d_Pr_doPairs_126 rfl rfl ?_
  refine fm_aload_n hc d_Pr_doPairs_127 rfl rfl ?_
  refine fm_getL (k := 4) hc K_Pr d_Pr_doPairs_128 q_127 rfl (by decide) (by omega) (by decide) (by decide) (by decide) rfl ?_
  refine fm_top (congrArg Value.long hu) ?_
  refine fm_last (j := k) (len := 8) (v := u64) hc 3 d_Pr_doPairs_131 (by omega) t3n tl3 rfl (by omega) (by decide) ?_
  refine fm_goto (tgt := 159) hc d_Pr_doPairs_132 rfl ?_
  refine fm_iconst (v := nI 0) hc d_Pr_doPairs_159 rfl ?_
  exact fm_iret hc hr d_Pr_doPairs_160 (Nat.le_refl _) (Nat.le_refl _) ⟨rfl, rfl, rfl⟩
