/-! THE REFERENCE: work -/
def hs_R (M : fm_M) (p0 : Nat) (sc : List Nat) : Prop := M.1 588 p0 = nI sc.length ∧ sc.length ≤ 48 ∧ ∀ k v, sc[k]? = some v → M.1 587 (48 * p0 + k) = nI v ∧ v < 256
def m_Me (M : fm_M) (gi fu : Nat) : fm_M := fm_put1 (fm_put1 M 607 gi (nI (fu - 1))) 586 50 (nI 0)
theorem wk_1 {l : Launch} {b : Nat} {x : Nat → Nat} {D : va_G} {dA : Nat → ClassId} {gi p0 ln pl fu : Nat} {h0 : Int32}  {n : Nat} {M : fm_M} (hn : 629 ≤ n) (hR : fm_RP M) (hg : gi < 98) (hp : p0 < 4) (h605 : M.1 605 gi = nI p0) (hln : M.1 588 p0 = nI ln) (hl48 : ln ≤ 48) (hpl : M.1 606 gi = nI pl) (hpl9 : pl < 900) (hfu : M.1 607 gi = nI fu) (hf1 : 1 ≤ fu) (hf2 : fu < 1000) (h1 : ln ≤ pl) : Met l y_Mo_work (Cond.code y_Mo_work b_Mo_work 9 (some .boolean) :: fm_T0) ({ frames := 7, cells := 0, slots := 0, locals := 210 }) (fm_Pc fm_lay fm_nf fm_fk fm_cl b x D dA (fm_tys dA) (fm_EX b x) false [.ref 586, .int (nI gi), .int h0] n M) (fm_Qc fm_lay fm_nf fm_fk fm_cl b x D dA (fun r n' M' => r = some (.int (nI 0)) ∧ n' = n ∧ M' = fm_put1 (fm_put1 M 607 gi (nI (fu - 1))) 586 50 (nI 0))) 0 0 (fm_A b) := by
  refine fm_enter (by decide) (Nat.le_of_ble_eq_true rfl) ?_
  intro p e s m args below meth c9 hc hr hnm hex htg
  refine fm_aload_n hc d_Mo_work_0 rfl rfl ?_
  refine fm_getR (k := 22) (q := 607) hc K_Mo d_Mo_work_1 q_907 rfl (by decide) (by omega) (by decide) (by decide) (by decide) rfl (rp_fuel hR) ?_
  refine fm_iload_n hc d_Mo_work_4 rfl rfl ?_
  refine fm_dup2_11 hc d_Mo_work_5 rfl rfl ?_
  refine fm_iald (j := gi) (len := 98) hc 0 d_Mo_work_6 (by decide) (by omega) (by decide) rfl (by omega) (by decide) ?_
  refine fm_top (congrArg Value.int hfu) ?_
  refine fm_iconst (v := nI 1) hc d_Mo_work_7 rfl ?_
  refine fm_isub hc d_Mo_work_8 ?_
  refine fm_top (congrArg Value.int (pk_sub (a := fu) (b := 1) (by omega))) ?_
  refine fm_iast (j := gi) (len := 98) (v := nI (fu - 1)) hc 0 d_Mo_work_9 (by decide) (by omega) (by decide) rfl (by omega) (by decide) ?_
  refine fm_aload_n hc d_Mo_work_10 rfl rfl ?_
  refine fm_iconst (v := nI 0) hc d_Mo_work_11 rfl ?_
  refine fm_putI (k := 50) (v := nI 0) hc K_Mo d_Mo_work_12 q_935 rfl (by decide) (by omega) (by decide) (by decide) (by decide) rfl rfl rfl rfl ?_
  refine fm_aload_n hc d_Mo_work_15 rfl rfl ?_
  refine fm_getR (k := 2) (q := 588) hc K_Mo d_Mo_work_16 q_887 rfl (by decide) (by omega) (by decide) (by decide) (by decide) rfl (rp_lengths hR) ?_
  refine fm_aload_n hc d_Mo_work_19 rfl rfl ?_
  refine fm_getR (k := 20) (q := 605) hc K_Mo d_Mo_work_20 q_905 rfl (by decide) (by omega) (by decide) (by decide) (by decide) rfl (rp_program hR) ?_
  refine fm_iload_n hc d_Mo_work_23 rfl rfl ?_
  refine fm_iald (j := gi) (len := 98) hc 0 d_Mo_work_24 (by decide) (by omega) (by decide) rfl (by omega) (by decide) ?_
  refine fm_top (congrArg Value.int ((p1_other (by decide)).trans ((p1_other (by decide)).trans h605))) ?_
  refine fm_iald (j := p0) (len := 4) hc 0 d_Mo_work_25 (by decide) (by omega) (by decide) rfl (by omega) (by decide) ?_
  refine fm_top (congrArg Value.int ((p1_other (by decide)).trans ((p1_other (by decide)).trans hln))) ?_
  refine fm_istore_n (lv' := [(3, .int (nI ln)), (0, .ref 586), (1, .int (nI gi)), (2, .int h0)]) hc d_Mo_work_26 rfl (by decide) rfl ?_
  refine fm_bipush (v := nI 48) hc d_Mo_work_27 rfl ?_
  refine fm_aload_n hc d_Mo_work_29 rfl rfl ?_
  refine fm_getR (k := 20) (q := 605) hc K_Mo d_Mo_work_30 q_905 rfl (by decide) (by omega) (by decide) (by decide) (by decide) rfl (rp_program hR) ?_
  refine fm_iload_n hc d_Mo_work_33 rfl rfl ?_
  refine fm_iald (j := gi) (len := 98) hc 0 d_Mo_work_34 (by decide) (by omega) (by decide) rfl (by omega) (by decide) ?_
  refine fm_top (congrArg Value.int ((p1_other (by decide)).trans ((p1_other (by decide)).trans h605))) ?_
  refine fm_imul hc d_Mo_work_35 ?_
  refine fm_top (congrArg Value.int (pk_mul 48 p0)) ?_
  refine fm_istore (lv' := [(4, .int (nI (48 * p0))), (3, .int (nI ln)), (0, .ref 586), (1, .int (nI gi)), (2, .int h0)]) hc d_Mo_work_36 (by decide) rfl ?_
  refine fm_aload_n hc d_Mo_work_38 rfl rfl ?_
  refine fm_getR (k := 21) (q := 606) hc K_Mo d_Mo_work_39 q_906 rfl (by decide) (by omega) (by decide) (by decide) (by decide) rfl (rp_place hR) ?_
  refine fm_iload_n hc d_Mo_work_42 rfl rfl ?_
  refine fm_iald (j := gi) (len := 98) hc 0 d_Mo_work_43 (by decide) (by omega) (by decide) rfl (by omega) (by decide) ?_
  refine fm_top (congrArg Value.int ((p1_other (by decide)).trans ((p1_other (by decide)).trans hpl))) ?_
  refine fm_istore (lv' := [(5, .int (nI pl)), (4, .int (nI (48 * p0))), (3, .int (nI ln)), (0, .ref 586), (1, .int (nI gi)), (2, .int h0)]) hc d_Mo_work_44 (by decide) rfl ?_
  refine fm_iload hc d_Mo_work_46 rfl ?_
  refine fm_iload_n hc d_Mo_work_48 rfl rfl ?_
  refine fm_icmp_ge (tgt := 65) hc d_Mo_work_49 rfl (fun _ => ?_) (fun g => absurd (nI_le h1 (by omega)) g)
  refine fm_sipush (v := nI 255) hc d_Mo_work_65 rfl ?_
  refine fm_istore (lv' := [(6, .int (nI 255)), (5, .int (nI pl)), (4, .int (nI (48 * p0))), (3, .int (nI ln)), (0, .ref 586), (1, .int (nI gi)), (2, .int h0)]) hc d_Mo_work_68 (by decide) rfl ?_
  refine fm_iload hc d_Mo_work_70 rfl ?_
  refine fm_callS (av := [.int (nI 255)]) (rest := []) (y := y_Mo_isWide) (bytes := b_Mo_isWide) hc fm_T0_good (fm_EX_st b x) hex q_1085 q_13 q_1083 q_1084 pd_Mo_isWide (rc_wide1 (c := 255) (by decide) (by decide)) ⟨rfl, rfl, Nat.le_of_ble_eq_true rfl, Nat.le_of_ble_eq_true rfl⟩ ⟨Nat.le_of_ble_eq_true rfl, Nat.le_of_ble_eq_true rfl⟩ d_Mo_work_72 (Nat.le_of_ble_eq_true rfl) (fun r n2 M2 hp => ?_)
  obtain ⟨rfl, hq1, hq2⟩ := hp
  replace hq1 := hq1.symm
  replace hq2 := hq2.symm
  subst hq1 hq2
  refine fm_cnt (z' := (0, 0)) rfl (fm_st (st' := [.int (nI 0)]) rfl ?_)
  refine fm_if_eq (tgt := 85) hc d_Mo_work_75 rfl (fun _ => ?_) (fun g => absurd (by decide) g)
  refine fm_iload hc d_Mo_work_85 rfl ?_
  refine fm_iconst (v := nI 1) hc d_Mo_work_87 rfl ?_
  refine fm_iadd hc d_Mo_work_88 ?_
  refine fm_top (congrArg Value.int (nI_add pl 1)) ?_
  refine fm_istore (lv' := [(7, .int (nI (pl + 1))), (6, .int (nI 255)), (5, .int (nI pl)), (4, .int (nI (48 * p0))), (3, .int (nI ln)), (0, .ref 586), (1, .int (nI gi)), (2, .int h0)]) hc d_Mo_work_89 (by decide) rfl ?_
  refine fm_iload hc d_Mo_work_91 rfl ?_
  refine fm_bipush (v := nI 19) hc d_Mo_work_93 rfl ?_
  refine fm_icmp_gt (tgt := 104) hc d_Mo_work_95 rfl (fun _ => ?_) (fun g => absurd (by decide) g)
  refine fm_iconst (v := nI 0) hc d_Mo_work_104 rfl ?_
  exact fm_zret (ty := .boolean) hc hr (by first | rfl | decide) d_Mo_work_105 (Nat.le_refl _) (Nat.le_refl _) ⟨rfl, rfl, rfl⟩
theorem wk_2 {l : Launch} {b : Nat} {x : Nat → Nat} {D : va_G} {dA : Nat → ClassId} {gi p0 ln pl fu c : Nat} {h0 : Int32}  {n : Nat} {M : fm_M} (hn : 629 ≤ n) (hR : fm_RP M) (hg : gi < 98) (hp : p0 < 4) (h605 : M.1 605 gi = nI p0) (hln : M.1 588 p0 = nI ln) (hl48 : ln ≤ 48) (hpl : M.1 606 gi = nI pl) (hpl9 : pl < 900) (hfu : M.1 607 gi = nI fu) (hf1 : 1 ≤ fu) (hf2 : fu < 1000) (h1 : pl < ln) (hcc : M.1 587 (48 * p0 + pl) = nI c) (hc6 : c < 256) (hz : ¬ ag_sz c = 2) (h2 : 19 < c) : Met l y_Mo_work (Cond.code y_Mo_work b_Mo_work 9 (some .boolean) :: fm_T0) ({ frames := 7, cells := 0, slots := 0, locals := 210 }) (fm_Pc fm_lay fm_nf fm_fk fm_cl b x D dA (fm_tys dA) (fm_EX b x) false [.ref 586, .int (nI gi), .int h0] n M) (fm_Qc fm_lay fm_nf fm_fk fm_cl b x D dA (fun r n' M' => r = some (.int (nI 0)) ∧ n' = n ∧ M' = fm_put1 (fm_put1 M 607 gi (nI (fu - 1))) 586 50 (nI 0))) 0 0 (fm_A b) := by
  refine fm_enter (by decide) (Nat.le_of_ble_eq_true rfl) ?_
  intro p e s m args below meth c9 hc hr hnm hex htg
  refine fm_aload_n hc d_Mo_work_0 rfl rfl ?_
  refine fm_getR (k := 22) (q := 607) hc K_Mo d_Mo_work_1 q_907 rfl (by decide) (by omega) (by decide) (by decide) (by decide) rfl (rp_fuel hR) ?_
  refine fm_iload_n hc d_Mo_work_4 rfl rfl ?_
  refine fm_dup2_11 hc d_Mo_work_5 rfl rfl ?_
  refine fm_iald (j := gi) (len := 98) hc 0 d_Mo_work_6 (by decide) (by omega) (by decide) rfl (by omega) (by decide) ?_
  refine fm_top (congrArg Value.int hfu) ?_
  refine fm_iconst (v := nI 1) hc d_Mo_work_7 rfl ?_
  refine fm_isub hc d_Mo_work_8 ?_
  refine fm_top (congrArg Value.int (pk_sub (a := fu) (b := 1) (by omega))) ?_
  refine fm_iast (j := gi) (len := 98) (v := nI (fu - 1)) hc 0 d_Mo_work_9 (by decide) (by omega) (by decide) rfl (by omega) (by decide) ?_
  refine fm_aload_n hc d_Mo_work_10 rfl rfl ?_
  refine fm_iconst (v := nI 0) hc d_Mo_work_11 rfl ?_
  refine fm_putI (k := 50) (v := nI 0) hc K_Mo d_Mo_work_12 q_935 rfl (by decide) (by omega) (by decide) (by decide) (by decide) rfl rfl rfl rfl ?_
  refine fm_aload_n hc d_Mo_work_15 rfl rfl ?_
  refine fm_getR (k := 2) (q := 588) hc K_Mo d_Mo_work_16 q_887 rfl (by decide) (by omega) (by decide) (by decide) (by decide) rfl (rp_lengths hR) ?_
  refine fm_aload_n hc d_Mo_work_19 rfl rfl ?_
  refine fm_getR (k := 20) (q := 605) hc K_Mo d_Mo_work_20 q_905 rfl (by decide) (by omega) (by decide) (by decide) (by decide) rfl (rp_program hR) ?_
  refine fm_iload_n hc d_Mo_work_23 rfl rfl ?_
  refine fm_iald (j := gi) (len := 98) hc 0 d_Mo_work_24 (by decide) (by omega) (by decide) rfl (by omega) (by decide) ?_
  refine fm_top (congrArg Value.int ((p1_other (by decide)).trans ((p1_other (by decide)).trans h605))) ?_
  refine fm_iald (j := p0) (len := 4) hc 0 d_Mo_work_25 (by decide) (by omega) (by decide) rfl (by omega) (by decide) ?_
  refine fm_top (congrArg Value.int ((p1_other (by decide)).trans ((p1_other (by decide)).trans hln))) ?_
  refine fm_istore_n (lv' := [(3, .int (nI ln)), (0, .ref 586), (1, .int (nI gi)), (2, .int h0)]) hc d_Mo_work_26 rfl (by decide) rfl ?_
  refine fm_bipush (v := nI 48) hc d_Mo_work_27 rfl ?_
  refine fm_aload_n hc d_Mo_work_29 rfl rfl ?_
  refine fm_getR (k := 20) (q := 605) hc K_Mo d_Mo_work_30 q_905 rfl (by decide) (by omega) (by decide) (by decide) (by decide) rfl (rp_program hR) ?_
  refine fm_iload_n hc d_Mo_work_33 rfl rfl ?_
  refine fm_iald (j := gi) (len := 98) hc 0 d_Mo_work_34 (by decide) (by omega) (by decide) rfl (by omega) (by decide) ?_
  refine fm_top (congrArg Value.int ((p1_other (by decide)).trans ((p1_other (by decide)).trans h605))) ?_
  refine fm_imul hc d_Mo_work_35 ?_
  refine fm_top (congrArg Value.int (pk_mul 48 p0)) ?_
  refine fm_istore (lv' := [(4, .int (nI (48 * p0))), (3, .int (nI ln)), (0, .ref 586), (1, .int (nI gi)), (2, .int h0)]) hc d_Mo_work_36 (by decide) rfl ?_
  refine fm_aload_n hc d_Mo_work_38 rfl rfl ?_
  refine fm_getR (k := 21) (q := 606) hc K_Mo d_Mo_work_39 q_906 rfl (by decide) (by omega) (by decide) (by decide) (by decide) rfl (rp_place hR) ?_
  refine fm_iload_n hc d_Mo_work_42 rfl rfl ?_
  refine fm_iald (j := gi) (len := 98) hc 0 d_Mo_work_43 (by decide) (by omega) (by decide) rfl (by omega) (by decide) ?_
  refine fm_top (congrArg Value.int ((p1_other (by decide)).trans ((p1_other (by decide)).trans hpl))) ?_
  refine fm_istore (lv' := [(5, .int (nI pl)), (4, .int (nI (48 * p0))), (3, .int (nI ln)), (0, .ref 586), (1, .int (nI gi)), (2, .int h0)]) hc d_Mo_work_44 (by decide) rfl ?_
  refine fm_iload hc d_Mo_work_46 rfl ?_
  refine fm_iload_n hc d_Mo_work_48 rfl rfl ?_
  refine fm_icmp_ge (tgt := 65) hc d_Mo_work_49 rfl (fun g => absurd g (hnle (a := ln) (c := pl) h1 (by omega))) (fun _ => ?_)
  refine fm_aload_n hc d_Mo_work_52 rfl rfl ?_
  refine fm_getR (k := 1) (q := 587) hc K_Mo d_Mo_work_53 q_886 rfl (by decide) (by omega) (by decide) (by decide) (by decide) rfl (rp_bytes hR) ?_
  refine fm_iload hc d_Mo_work_56 rfl ?_
  refine fm_iload hc d_Mo_work_58 rfl ?_
  refine fm_iadd hc d_Mo_work_60 ?_
  refine fm_top (congrArg Value.int (nI_add (48 * p0) pl)) ?_
  refine fm_iald (j := (48 * p0) + pl) (len := 192) hc 0 d_Mo_work_61 (by decide) (by omega) (by decide) rfl (by omega) (by decide) ?_
  refine fm_top (congrArg Value.int ((p1_other (by decide)).trans ((p1_other (by decide)).trans hcc))) ?_
  refine fm_goto (tgt := 68) hc d_Mo_work_62 rfl ?_
  refine fm_istore (lv' := [(6, .int (nI c)), (5, .int (nI pl)), (4, .int (nI (48 * p0))), (3, .int (nI ln)), (0, .ref 586), (1, .int (nI gi)), (2, .int h0)]) hc d_Mo_work_68 (by decide) rfl ?_
  refine fm_iload hc d_Mo_work_70 rfl ?_
  refine fm_callS (av := [.int (nI c)]) (rest := []) (y := y_Mo_isWide) (bytes := b_Mo_isWide) hc fm_T0_good (fm_EX_st b x) hex q_1085 q_13 q_1083 q_1084 pd_Mo_isWide (rc_wide1 (c := c) hc6 hz) ⟨rfl, rfl, Nat.le_of_ble_eq_true rfl, Nat.le_of_ble_eq_true rfl⟩ ⟨Nat.le_of_ble_eq_true rfl, Nat.le_of_ble_eq_true rfl⟩ d_Mo_work_72 (Nat.le_of_ble_eq_true rfl) (fun r n2 M2 hp => ?_)
  obtain ⟨rfl, hq1, hq2⟩ := hp
  replace hq1 := hq1.symm
  replace hq2 := hq2.symm
  subst hq1 hq2
  refine fm_cnt (z' := (0, 0)) rfl (fm_st (st' := [.int (nI 0)]) rfl ?_)
  refine fm_if_eq (tgt := 85) hc d_Mo_work_75 rfl (fun _ => ?_) (fun g => absurd (by decide) g)
  refine fm_iload hc d_Mo_work_85 rfl ?_
  refine fm_iconst (v := nI 1) hc d_Mo_work_87 rfl ?_
  refine fm_iadd hc d_Mo_work_88 ?_
  refine fm_top (congrArg Value.int (nI_add pl 1)) ?_
  refine fm_istore (lv' := [(7, .int (nI (pl + 1))), (6, .int (nI c)), (5, .int (nI pl)), (4, .int (nI (48 * p0))), (3, .int (nI ln)), (0, .ref 586), (1, .int (nI gi)), (2, .int h0)]) hc d_Mo_work_89 (by decide) rfl ?_
  refine fm_iload hc d_Mo_work_91 rfl ?_
  refine fm_bipush (v := nI 19) hc d_Mo_work_93 rfl ?_
  refine fm_icmp_gt (tgt := 104) hc d_Mo_work_95 rfl (fun _ => ?_) (fun g => absurd (nI_lt h2 (by omega)) g)
  refine fm_iconst (v := nI 0) hc d_Mo_work_104 rfl ?_
  exact fm_zret (ty := .boolean) hc hr (by first | rfl | decide) d_Mo_work_105 (Nat.le_refl _) (Nat.le_refl _) ⟨rfl, rfl, rfl⟩
theorem wk_3 {l : Launch} {b : Nat} {x : Nat → Nat} {D : va_G} {dA : Nat → ClassId} {gi p0 ln pl fu c : Nat} {h0 : Int32}  {n : Nat} {M : fm_M} (hn : 629 ≤ n) (hR : fm_RP M) (hg : gi < 98) (hp : p0 < 4) (h605 : M.1 605 gi = nI p0) (hln : M.1 588 p0 = nI ln) (hl48 : ln ≤ 48) (hpl : M.1 606 gi = nI pl) (hpl9 : pl < 900) (hfu : M.1 607 gi = nI fu) (hf1 : 1 ≤ fu) (hf2 : fu < 1000) (h1 : pl < ln) (hcc : M.1 587 (48 * p0 + pl) = nI c) (hc6 : c < 256) (hz : ag_sz c = 2) (h2 : c ≤ 19) (h3 : ln < pl + 2) : Met l y_Mo_work (Cond.code y_Mo_work b_Mo_work 9 (some .boolean) :: fm_T0) ({ frames := 7, cells := 0, slots := 0, locals := 210 }) (fm_Pc fm_lay fm_nf fm_fk fm_cl b x D dA (fm_tys dA) (fm_EX b x) false [.ref 586, .int (nI gi), .int h0] n M) (fm_Qc fm_lay fm_nf fm_fk fm_cl b x D dA (fun r n' M' => r = some (.int (nI 0)) ∧ n' = n ∧ M' = fm_put1 (fm_put1 M 607 gi (nI (fu - 1))) 586 50 (nI 0))) 0 0 (fm_A b) := by
  refine fm_enter (by decide) (Nat.le_of_ble_eq_true rfl) ?_
  intro p e s m args below meth c9 hc hr hnm hex htg
  refine fm_aload_n hc d_Mo_work_0 rfl rfl ?_
  refine fm_getR (k := 22) (q := 607) hc K_Mo d_Mo_work_1 q_907 rfl (by decide) (by omega) (by decide) (by decide) (by decide) rfl (rp_fuel hR) ?_
  refine fm_iload_n hc d_Mo_work_4 rfl rfl ?_
  refine fm_dup2_11 hc d_Mo_work_5 rfl rfl ?_
  refine fm_iald (j := gi) (len := 98) hc 0 d_Mo_work_6 (by decide) (by omega) (by decide) rfl (by omega) (by decide) ?_
  refine fm_top (congrArg Value.int hfu) ?_
  refine fm_iconst (v := nI 1) hc d_Mo_work_7 rfl ?_
  refine fm_isub hc d_Mo_work_8 ?_
  refine fm_top (congrArg Value.int (pk_sub (a := fu) (b := 1) (by omega))) ?_
  refine fm_iast (j := gi) (len := 98) (v := nI (fu - 1)) hc 0 d_Mo_work_9 (by decide) (by omega) (by decide) rfl (by omega) (by decide) ?_
  refine fm_aload_n hc d_Mo_work_10 rfl rfl ?_
  refine fm_iconst (v := nI 0) hc d_Mo_work_11 rfl ?_
  refine fm_putI (k := 50) (v := nI 0) hc K_Mo d_Mo_work_12 q_935 rfl (by decide) (by omega) (by decide) (by decide) (by decide) rfl rfl rfl rfl ?_
  refine fm_aload_n hc d_Mo_work_15 rfl rfl ?_
  refine fm_getR (k := 2) (q := 588) hc K_Mo d_Mo_work_16 q_887 rfl (by decide) (by omega) (by decide) (by decide) (by decide) rfl (rp_lengths hR) ?_
  refine fm_aload_n hc d_Mo_work_19 rfl rfl ?_
  refine fm_getR (k := 20) (q := 605) hc K_Mo d_Mo_work_20 q_905 rfl (by decide) (by omega) (by decide) (by decide) (by decide) rfl (rp_program hR) ?_
  refine fm_iload_n hc d_Mo_work_23 rfl rfl ?_
  refine fm_iald (j := gi) (len := 98) hc 0 d_Mo_work_24 (by decide) (by omega) (by decide) rfl (by omega) (by decide) ?_
  refine fm_top (congrArg Value.int ((p1_other (by decide)).trans ((p1_other (by decide)).trans h605))) ?_
  refine fm_iald (j := p0) (len := 4) hc 0 d_Mo_work_25 (by decide) (by omega) (by decide) rfl (by omega) (by decide) ?_
  refine fm_top (congrArg Value.int ((p1_other (by decide)).trans ((p1_other (by decide)).trans hln))) ?_
  refine fm_istore_n (lv' := [(3, .int (nI ln)), (0, .ref 586), (1, .int (nI gi)), (2, .int h0)]) hc d_Mo_work_26 rfl (by decide) rfl ?_
  refine fm_bipush (v := nI 48) hc d_Mo_work_27 rfl ?_
  refine fm_aload_n hc d_Mo_work_29 rfl rfl ?_
  refine fm_getR (k := 20) (q := 605) hc K_Mo d_Mo_work_30 q_905 rfl (by decide) (by omega) (by decide) (by decide) (by decide) rfl (rp_program hR) ?_
  refine fm_iload_n hc d_Mo_work_33 rfl rfl ?_
  refine fm_iald (j := gi) (len := 98) hc 0 d_Mo_work_34 (by decide) (by omega) (by decide) rfl (by omega) (by decide) ?_
  refine fm_top (congrArg Value.int ((p1_other (by decide)).trans ((p1_other (by decide)).trans h605))) ?_
  refine fm_imul hc d_Mo_work_35 ?_
  refine fm_top (congrArg Value.int (pk_mul 48 p0)) ?_
  refine fm_istore (lv' := [(4, .int (nI (48 * p0))), (3, .int (nI ln)), (0, .ref 586), (1, .int (nI gi)), (2, .int h0)]) hc d_Mo_work_36 (by decide) rfl ?_
  refine fm_aload_n hc d_Mo_work_38 rfl rfl ?_
  refine fm_getR (k := 21) (q := 606) hc K_Mo d_Mo_work_39 q_906 rfl (by decide) (by omega) (by decide) (by decide) (by decide) rfl (rp_place hR) ?_
  refine fm_iload_n hc d_Mo_work_42 rfl rfl ?_
  refine fm_iald (j := gi) (len := 98) hc 0 d_Mo_work_43 (by decide) (by omega) (by decide) rfl (by omega) (by decide) ?_
  refine fm_top (congrArg Value.int ((p1_other (by decide)).trans ((p1_other (by decide)).trans hpl))) ?_
  refine fm_istore (lv' := [(5, .int (nI pl)), (4, .int (nI (48 * p0))), (3, .int (nI ln)), (0, .ref 586), (1, .int (nI gi)), (2, .int h0)]) hc d_Mo_work_44 (by decide) rfl ?_
  refine fm_iload hc d_Mo_work_46 rfl ?_
  refine fm_iload_n hc d_Mo_work_48 rfl rfl ?_
  refine fm_icmp_ge (tgt := 65) hc d_Mo_work_49 rfl (fun g => absurd g (hnle (a := ln) (c := pl) h1 (by omega))) (fun _ => ?_)
  refine fm_aload_n hc d_Mo_work_52 rfl rfl ?_
  refine fm_getR (k := 1) (q := 587) hc K_Mo d_Mo_work_53 q_886 rfl (by decide) (by omega) (by decide) (by decide) (by decide) rfl (rp_bytes hR) ?_
  refine fm_iload hc d_Mo_work_56 rfl ?_
  refine fm_iload hc d_Mo_work_58 rfl ?_
  refine fm_iadd hc d_Mo_work_60 ?_
  refine fm_top (congrArg Value.int (nI_add (48 * p0) pl)) ?_
  refine fm_iald (j := (48 * p0) + pl) (len := 192) hc 0 d_Mo_work_61 (by decide) (by omega) (by decide) rfl (by omega) (by decide) ?_
  refine fm_top (congrArg Value.int ((p1_other (by decide)).trans ((p1_other (by decide)).trans hcc))) ?_
  refine fm_goto (tgt := 68) hc d_Mo_work_62 rfl ?_
  refine fm_istore (lv' := [(6, .int (nI c)), (5, .int (nI pl)), (4, .int (nI (48 * p0))), (3, .int (nI ln)), (0, .ref 586), (1, .int (nI gi)), (2, .int h0)]) hc d_Mo_work_68 (by decide) rfl ?_
  refine fm_iload hc d_Mo_work_70 rfl ?_
  refine fm_callS (av := [.int (nI c)]) (rest := []) (y := y_Mo_isWide) (bytes := b_Mo_isWide) hc fm_T0_good (fm_EX_st b x) hex q_1085 q_13 q_1083 q_1084 pd_Mo_isWide (rc_wide2 (c := c) hz) ⟨rfl, rfl, Nat.le_of_ble_eq_true rfl, Nat.le_of_ble_eq_true rfl⟩ ⟨Nat.le_of_ble_eq_true rfl, Nat.le_of_ble_eq_true rfl⟩ d_Mo_work_72 (Nat.le_of_ble_eq_true rfl) (fun r n2 M2 hp => ?_)
  obtain ⟨rfl, hq1, hq2⟩ := hp
  replace hq1 := hq1.symm
  replace hq2 := hq2.symm
  subst hq1 hq2
  refine fm_cnt (z' := (0, 0)) rfl (fm_st (st' := [.int (nI 1)]) rfl ?_)
  refine fm_if_eq (tgt := 85) hc d_Mo_work_75 rfl (fun g => absurd g (by decide)) (fun _ => ?_)
  refine fm_iload hc d_Mo_work_78 rfl ?_
  refine fm_iconst (v := nI 2) hc d_Mo_work_80 rfl ?_
  refine fm_iadd hc d_Mo_work_81 ?_
  refine fm_top (congrArg Value.int (nI_add pl 2)) ?_
  refine fm_goto (tgt := 89) hc d_Mo_work_82 rfl ?_
  refine fm_istore (lv' := [(7, .int (nI (pl + 2))), (6, .int (nI c)), (5, .int (nI pl)), (4, .int (nI (48 * p0))), (3, .int (nI ln)), (0, .ref 586), (1, .int (nI gi)), (2, .int h0)]) hc d_Mo_work_89 (by decide) rfl ?_
  refine fm_iload hc d_Mo_work_91 rfl ?_
  refine fm_bipush (v := nI 19) hc d_Mo_work_93 rfl ?_
  refine fm_icmp_gt (tgt := 104) hc d_Mo_work_95 rfl (fun g => absurd g (Int32.not_lt.mpr (nI_le h2 (by omega)))) (fun _ => ?_)
  refine fm_iload hc d_Mo_work_98 rfl ?_
  refine fm_iload_n hc d_Mo_work_100 rfl rfl ?_
  refine fm_icmp_le (tgt := 106) hc d_Mo_work_101 rfl (fun g => absurd g (hnle (a := pl + 2) (c := ln) h3 (by omega))) (fun _ => ?_)
  refine fm_iconst (v := nI 0) hc d_Mo_work_104 rfl ?_
  exact fm_zret (ty := .boolean) hc hr (by first | rfl | decide) d_Mo_work_105 (Nat.le_refl _) (Nat.le_refl _) ⟨rfl, rfl, rfl⟩
theorem wk_4w {l : Launch} {b : Nat} {x : Nat → Nat} {D : va_G} {dA : Nat → ClassId} {gi p0 ln pl fu c y : Nat} {h0 : Int32}  {n : Nat} {M : fm_M} (hn : 629 ≤ n) (hR : fm_RP M) (hg : gi < 98) (hp : p0 < 4) (h605 : M.1 605 gi = nI p0) (hln : M.1 588 p0 = nI ln) (hl48 : ln ≤ 48) (hpl : M.1 606 gi = nI pl) (hpl9 : pl < 900) (hfu : M.1 607 gi = nI fu) (hf1 : 1 ≤ fu) (hf2 : fu < 1000) (h1 : pl < ln) (hcc : M.1 587 (48 * p0 + pl) = nI c) (hc6 : c < 256) (hz : ag_sz c = 2) (h2 : c ≤ 19) (h3 : pl + 2 ≤ ln) (hyy : M.1 587 (48 * p0 + pl + 1) = nI y) (hy2 : y < 256) (hif : Met l y_Mo_isFit (Cond.code y_Mo_isFit b_Mo_isFit 4 (some .boolean) :: fm_T0) ({ frames := 3, cells := 0, slots := 0, locals := 80 }) (fm_Pc fm_lay fm_nf fm_fk fm_cl b x D dA (fm_tys dA) (fm_EX b x) false [.ref 586, .int (nI gi), .int (nI c), .int (nI y)] n (fm_put1 (fm_put1 M 607 gi (nI (fu - 1))) 586 50 (nI 0))) (fm_Qc fm_lay fm_nf fm_fk fm_cl b x D dA (fun r n' M' => r = some (.int (nI 0)) ∧ n' = n ∧ fr_K (fm_put1 (fm_put1 M 607 gi (nI (fu - 1))) 586 50 (nI 0)) M')) 0 0 (fm_A b)) : Met l y_Mo_work (Cond.code y_Mo_work b_Mo_work 9 (some .boolean) :: fm_T0) ({ frames := 7, cells := 0, slots := 0, locals := 210 }) (fm_Pc fm_lay fm_nf fm_fk fm_cl b x D dA (fm_tys dA) (fm_EX b x) false [.ref 586, .int (nI gi), .int h0] n M) (fm_Qc fm_lay fm_nf fm_fk fm_cl b x D dA (fun r n' M' => r = some (.int (nI 0)) ∧ n' = n ∧ fr_K (fm_put1 (fm_put1 M 607 gi (nI (fu - 1))) 586 50 (nI 0)) M')) 0 0 (fm_A b) := by
  refine fm_enter (by decide) (Nat.le_of_ble_eq_true rfl) ?_
  intro p e s m args below meth c9 hc hr hnm hex htg
  refine fm_aload_n hc d_Mo_work_0 rfl rfl ?_
  refine fm_getR (k := 22) (q := 607) hc K_Mo d_Mo_work_1 q_907 rfl (by decide) (by omega) (by decide) (by decide) (by decide) rfl (rp_fuel hR) ?_
  refine fm_iload_n hc d_Mo_work_4 rfl rfl ?_
  refine fm_dup2_11 hc d_Mo_work_5 rfl rfl ?_
  refine fm_iald (j := gi) (len := 98) hc 0 d_Mo_work_6 (by decide) (by omega) (by decide) rfl (by omega) (by decide) ?_
  refine fm_top (congrArg Value.int hfu) ?_
  refine fm_iconst (v := nI 1) hc d_Mo_work_7 rfl ?_
  refine fm_isub hc d_Mo_work_8 ?_
  refine fm_top (congrArg Value.int (pk_sub (a := fu) (b := 1) (by omega))) ?_
  refine fm_iast (j := gi) (len := 98) (v := nI (fu - 1)) hc 0 d_Mo_work_9 (by decide) (by omega) (by decide) rfl (by omega) (by decide) ?_
  refine fm_aload_n hc d_Mo_work_10 rfl rfl ?_
  refine fm_iconst (v := nI 0) hc d_Mo_work_11 rfl ?_
  refine fm_putI (k := 50) (v := nI 0) hc K_Mo d_Mo_work_12 q_935 rfl (by decide) (by omega) (by decide) (by decide) (by decide) rfl rfl rfl rfl ?_
  refine fm_aload_n hc d_Mo_work_15 rfl rfl ?_
  refine fm_getR (k := 2) (q := 588) hc K_Mo d_Mo_work_16 q_887 rfl (by decide) (by omega) (by decide) (by decide) (by decide) rfl (rp_lengths hR) ?_
  refine fm_aload_n hc d_Mo_work_19 rfl rfl ?_
  refine fm_getR (k := 20) (q := 605) hc K_Mo d_Mo_work_20 q_905 rfl (by decide) (by omega) (by decide) (by decide) (by decide) rfl (rp_program hR) ?_
  refine fm_iload_n hc d_Mo_work_23 rfl rfl ?_
  refine fm_iald (j := gi) (len := 98) hc 0 d_Mo_work_24 (by decide) (by omega) (by decide) rfl (by omega) (by decide) ?_
  refine fm_top (congrArg Value.int ((p1_other (by decide)).trans ((p1_other (by decide)).trans h605))) ?_
  refine fm_iald (j := p0) (len := 4) hc 0 d_Mo_work_25 (by decide) (by omega) (by decide) rfl (by omega) (by decide) ?_
  refine fm_top (congrArg Value.int ((p1_other (by decide)).trans ((p1_other (by decide)).trans hln))) ?_
  refine fm_istore_n (lv' := [(3, .int (nI ln)), (0, .ref 586), (1, .int (nI gi)), (2, .int h0)]) hc d_Mo_work_26 rfl (by decide) rfl ?_
  refine fm_bipush (v := nI 48) hc d_Mo_work_27 rfl ?_
  refine fm_aload_n hc d_Mo_work_29 rfl rfl ?_
  refine fm_getR (k := 20) (q := 605) hc K_Mo d_Mo_work_30 q_905 rfl (by decide) (by omega) (by decide) (by decide) (by decide) rfl (rp_program hR) ?_
  refine fm_iload_n hc d_Mo_work_33 rfl rfl ?_
  refine fm_iald (j := gi) (len := 98) hc 0 d_Mo_work_34 (by decide) (by omega) (by decide) rfl (by omega) (by decide) ?_
  refine fm_top (congrArg Value.int ((p1_other (by decide)).trans ((p1_other (by decide)).trans h605))) ?_
  refine fm_imul hc d_Mo_work_35 ?_
  refine fm_top (congrArg Value.int (pk_mul 48 p0)) ?_
  refine fm_istore (lv' := [(4, .int (nI (48 * p0))), (3, .int (nI ln)), (0, .ref 586), (1, .int (nI gi)), (2, .int h0)]) hc d_Mo_work_36 (by decide) rfl ?_
  refine fm_aload_n hc d_Mo_work_38 rfl rfl ?_
  refine fm_getR (k := 21) (q := 606) hc K_Mo d_Mo_work_39 q_906 rfl (by decide) (by omega) (by decide) (by decide) (by decide) rfl (rp_place hR) ?_
  refine fm_iload_n hc d_Mo_work_42 rfl rfl ?_
  refine fm_iald (j := gi) (len := 98) hc 0 d_Mo_work_43 (by decide) (by omega) (by decide) rfl (by omega) (by decide) ?_
  refine fm_top (congrArg Value.int ((p1_other (by decide)).trans ((p1_other (by decide)).trans hpl))) ?_
  refine fm_istore (lv' := [(5, .int (nI pl)), (4, .int (nI (48 * p0))), (3, .int (nI ln)), (0, .ref 586), (1, .int (nI gi)), (2, .int h0)]) hc d_Mo_work_44 (by decide) rfl ?_
  refine fm_iload hc d_Mo_work_46 rfl ?_
  refine fm_iload_n hc d_Mo_work_48 rfl rfl ?_
  refine fm_icmp_ge (tgt := 65) hc d_Mo_work_49 rfl (fun g => absurd g (hnle (a := ln) (c := pl) h1 (by omega))) (fun _ => ?_)
  refine fm_aload_n hc d_Mo_work_52 rfl rfl ?_
  refine fm_getR (k := 1) (q := 587) hc K_Mo d_Mo_work_53 q_886 rfl (by decide) (by omega) (by decide) (by decide) (by decide) rfl (rp_bytes hR) ?_
  refine fm_iload hc d_Mo_work_56 rfl ?_
  refine fm_iload hc d_Mo_work_58 rfl ?_
  refine fm_iadd hc d_Mo_work_60 ?_
  refine fm_top (congrArg Value.int (nI_add (48 * p0) pl)) ?_
  refine fm_iald (j := (48 * p0) + pl) (len := 192) hc 0 d_Mo_work_61 (by decide) (by omega) (by decide) rfl (by omega) (by decide) ?_
  refine fm_top (congrArg Value.int ((p1_other (by decide)).trans ((p1_other (by decide)).trans hcc))) ?_
  refine fm_goto (tgt := 68) hc d_Mo_work_62 rfl ?_
  refine fm_istore (lv' := [(6, .int (nI c)), (5, .int (nI pl)), (4, .int (nI (48 * p0))), (3, .int (nI ln)), (0, .ref 586), (1, .int (nI gi)), (2, .int h0)]) hc d_Mo_work_68 (by decide) rfl ?_
  refine fm_iload hc d_Mo_work_70 rfl ?_
  refine fm_callS (av := [.int (nI c)]) (rest := []) (y := y_Mo_isWide) (bytes := b_Mo_isWide) hc fm_T0_good (fm_EX_st b x) hex q_1085 q_13 q_1083 q_1084 pd_Mo_isWide (rc_wide2 (c := c) hz) ⟨rfl, rfl, Nat.le_of_ble_eq_true rfl, Nat.le_of_ble_eq_true rfl⟩ ⟨Nat.le_of_ble_eq_true rfl, Nat.le_of_ble_eq_true rfl⟩ d_Mo_work_72 (Nat.le_of_ble_eq_true rfl) (fun r n2 M2 hp => ?_)
  obtain ⟨rfl, hq1, hq2⟩ := hp
  replace hq1 := hq1.symm
  replace hq2 := hq2.symm
  subst hq1 hq2
  refine fm_cnt (z' := (0, 0)) rfl (fm_st (st' := [.int (nI 1)]) rfl ?_)
  refine fm_if_eq (tgt := 85) hc d_Mo_work_75 rfl (fun g => absurd g (by decide)) (fun _ => ?_)
  refine fm_iload hc d_Mo_work_78 rfl ?_
  refine fm_iconst (v := nI 2) hc d_Mo_work_80 rfl ?_
  refine fm_iadd hc d_Mo_work_81 ?_
  refine fm_top (congrArg Value.int (nI_add pl 2)) ?_
  refine fm_goto (tgt := 89) hc d_Mo_work_82 rfl ?_
  refine fm_istore (lv' := [(7, .int (nI (pl + 2))), (6, .int (nI c)), (5, .int (nI pl)), (4, .int (nI (48 * p0))), (3, .int (nI ln)), (0, .ref 586), (1, .int (nI gi)), (2, .int h0)]) hc d_Mo_work_89 (by decide) rfl ?_
  refine fm_iload hc d_Mo_work_91 rfl ?_
  refine fm_bipush (v := nI 19) hc d_Mo_work_93 rfl ?_
  refine fm_icmp_gt (tgt := 104) hc d_Mo_work_95 rfl (fun g => absurd g (Int32.not_lt.mpr (nI_le h2 (by omega)))) (fun _ => ?_)
  refine fm_iload hc d_Mo_work_98 rfl ?_
  refine fm_iload_n hc d_Mo_work_100 rfl rfl ?_
  refine fm_icmp_le (tgt := 106) hc d_Mo_work_101 rfl (fun _ => ?_) (fun g => absurd (nI_le h3 (by omega)) g)
  refine fm_iload hc d_Mo_work_106 rfl ?_
  refine fm_callS (av := [.int (nI c)]) (rest := []) (y := y_Mo_isWide) (bytes := b_Mo_isWide) hc fm_T0_good (fm_EX_st b x) hex q_1085 q_13 q_1083 q_1084 pd_Mo_isWide (rc_wide2 (c := c) hz) ⟨rfl, rfl, Nat.le_of_ble_eq_true rfl, Nat.le_of_ble_eq_true rfl⟩ ⟨Nat.le_of_ble_eq_true rfl, Nat.le_of_ble_eq_true rfl⟩ d_Mo_work_108 (Nat.le_of_ble_eq_true rfl) (fun r n2 M2 hp => ?_)
  obtain ⟨rfl, hq1, hq2⟩ := hp
  replace hq1 := hq1.symm
  replace hq2 := hq2.symm
  subst hq1 hq2
  refine fm_cnt (z' := (0, 0)) rfl (fm_st (st' := [.int (nI 1)]) rfl ?_)
  refine fm_if_eq (tgt := 129) hc d_Mo_work_111 rfl (fun g => absurd g (by decide)) (fun _ => ?_)
  refine fm_aload_n hc d_Mo_work_114 rfl rfl ?_
  refine fm_getR (k := 1) (q := 587) hc K_Mo d_Mo_work_115 q_886 rfl (by decide) (by omega) (by decide) (by decide) (by decide) rfl (rp_bytes hR) ?_
  refine fm_iload hc d_Mo_work_118 rfl ?_
  refine fm_iload hc d_Mo_work_120 rfl ?_
  refine fm_iadd hc d_Mo_work_122 ?_
  refine fm_top (congrArg Value.int (nI_add (48 * p0) pl)) ?_
  refine fm_iconst (v := nI 1) hc d_Mo_work_123 rfl ?_
  refine fm_iadd hc d_Mo_work_124 ?_
  refine fm_top (congrArg Value.int (nI_add ((48 * p0) + pl) 1)) ?_
  refine fm_iald (j := ((48 * p0) + pl) + 1) (len := 192) hc 0 d_Mo_work_125 (by decide) (by omega) (by decide) rfl (by omega) (by decide) ?_
  refine fm_top (congrArg Value.int ((p1_other (by decide)).trans ((p1_other (by decide)).trans hyy))) ?_
  refine fm_goto (tgt := 130) hc d_Mo_work_126 rfl ?_
  refine fm_istore (lv' := [(8, .int (nI y)), (7, .int (nI (pl + 2))), (6, .int (nI c)), (5, .int (nI pl)), (4, .int (nI (48 * p0))), (3, .int (nI ln)), (0, .ref 586), (1, .int (nI gi)), (2, .int h0)]) hc d_Mo_work_130 (by decide) rfl ?_
  refine fm_aload_n hc d_Mo_work_132 rfl rfl ?_
  refine fm_iload_n hc d_Mo_work_133 rfl rfl ?_
  refine fm_iload hc d_Mo_work_134 rfl ?_
  refine fm_iload hc d_Mo_work_136 rfl ?_
  refine fm_callV (av := [.int (nI gi), .int (nI c), .int (nI y)]) (rest := []) (ob := 586) (ci := 11) (r0 := ("AgentNetModel", F_Mo, 51)) (y := y_Mo_isFit) (bytes := b_Mo_isFit) hc fm_T0_good (fm_EX_st b x) hex q_1089 q_13 q_1086 q_1088 qs_Mo_isFit pd_Mo_isFit (by decide) (by omega) (by decide) (by decide) rfl rfl (hif) ⟨rfl, rfl, Nat.le_of_ble_eq_true rfl, Nat.le_of_ble_eq_true rfl⟩ ⟨Nat.le_of_ble_eq_true rfl, Nat.le_of_ble_eq_true rfl⟩ d_Mo_work_138 (Nat.le_of_ble_eq_true rfl) (fun r n2 M2 hp => ?_)
  obtain ⟨rfl, hq1, f1⟩ := hp
  replace hq1 := hq1.symm
  subst hq1
  revert f1
  generalize M2 = Ma
  intro f1
  have hRa := frK_RP f1 hR
  refine fm_cnt (z' := (0, 0)) rfl (fm_st (st' := [.int (nI 0)]) rfl ?_)
  refine fm_if_ne (tgt := 146) hc d_Mo_work_141 rfl (fun g => absurd (by decide) g) (fun _ => ?_)
  refine fm_iconst (v := nI 0) hc d_Mo_work_144 rfl ?_
  exact fm_zret (ty := .boolean) hc hr (by first | rfl | decide) d_Mo_work_145 (Nat.le_refl _) (Nat.le_refl _) ⟨rfl, rfl, f1⟩
theorem wk_5w {l : Launch} {b : Nat} {x : Nat → Nat} {D : va_G} {dA : Nat → ClassId} {gi p0 ln pl fu c y : Nat} {h0 : Int32} {PR : fm_M → Prop} {n : Nat} {M : fm_M} (hn : 629 ≤ n) (hR : fm_RP M) (hg : gi < 98) (hp : p0 < 4) (h605 : M.1 605 gi = nI p0) (hln : M.1 588 p0 = nI ln) (hl48 : ln ≤ 48) (hpl : M.1 606 gi = nI pl) (hpl9 : pl < 900) (hfu : M.1 607 gi = nI fu) (hf1 : 1 ≤ fu) (hf2 : fu < 1000) (h1 : pl < ln) (hcc : M.1 587 (48 * p0 + pl) = nI c) (hc6 : c < 256) (hz : ag_sz c = 2) (h2 : c ≤ 19) (h3 : pl + 2 ≤ ln) (hyy : M.1 587 (48 * p0 + pl + 1) = nI y) (hy2 : y < 256) (hif : Met l y_Mo_isFit (Cond.code y_Mo_isFit b_Mo_isFit 4 (some .boolean) :: fm_T0) ({ frames := 3, cells := 0, slots := 0, locals := 80 }) (fm_Pc fm_lay fm_nf fm_fk fm_cl b x D dA (fm_tys dA) (fm_EX b x) false [.ref 586, .int (nI gi), .int (nI c), .int (nI y)] n (fm_put1 (fm_put1 M 607 gi (nI (fu - 1))) 586 50 (nI 0))) (fm_Qc fm_lay fm_nf fm_fk fm_cl b x D dA (fun r n' M' => r = some (.int (nI 1)) ∧ n' = n ∧ fr_K (fm_put1 (fm_put1 M 607 gi (nI (fu - 1))) 586 50 (nI 0)) M')) 0 0 (fm_A b)) (hpf : ∀ Mk, fr_K (fm_put1 (fm_put1 M 607 gi (nI (fu - 1))) 586 50 (nI 0)) Mk → Met l y_Mo_perform (Cond.code y_Mo_perform b_Mo_perform 5 none :: fm_T0) ({ frames := 6, cells := 0, slots := 0, locals := 170 }) (fm_Pc fm_lay fm_nf fm_fk fm_cl b x D dA (fm_tys dA) (fm_EX b x) false [.ref 586, .int (nI gi), .int h0, .int (nI c), .int (nI y)] n (fm_put1 Mk 606 gi (nI (pl + 2)))) (fm_Qc fm_lay fm_nf fm_fk fm_cl b x D dA (fun r n' M' => r = none ∧ n' = n ∧ PR M')) 0 0 (fm_A b)) : Met l y_Mo_work (Cond.code y_Mo_work b_Mo_work 9 (some .boolean) :: fm_T0) ({ frames := 7, cells := 0, slots := 0, locals := 210 }) (fm_Pc fm_lay fm_nf fm_fk fm_cl b x D dA (fm_tys dA) (fm_EX b x) false [.ref 586, .int (nI gi), .int h0] n M) (fm_Qc fm_lay fm_nf fm_fk fm_cl b x D dA (fun r n' M' => r = some (.int (nI 1)) ∧ n' = n ∧ PR M')) 0 0 (fm_A b) := by
  refine fm_enter (by decide) (Nat.le_of_ble_eq_true rfl) ?_
  intro p e s m args below meth c9 hc hr hnm hex htg
  refine fm_aload_n hc d_Mo_work_0 rfl rfl ?_
  refine fm_getR (k := 22) (q := 607) hc K_Mo d_Mo_work_1 q_907 rfl (by decide) (by omega) (by decide) (by decide) (by decide) rfl (rp_fuel hR) ?_
  refine fm_iload_n hc d_Mo_work_4 rfl rfl ?_
  refine fm_dup2_11 hc d_Mo_work_5 rfl rfl ?_
  refine fm_iald (j := gi) (len := 98) hc 0 d_Mo_work_6 (by decide) (by omega) (by decide) rfl (by omega) (by decide) ?_
  refine fm_top (congrArg Value.int hfu) ?_
  refine fm_iconst (v := nI 1) hc d_Mo_work_7 rfl ?_
  refine fm_isub hc d_Mo_work_8 ?_
  refine fm_top (congrArg Value.int (pk_sub (a := fu) (b := 1) (by omega))) ?_
  refine fm_iast (j := gi) (len := 98) (v := nI (fu - 1)) hc 0 d_Mo_work_9 (by decide) (by omega) (by decide) rfl (by omega) (by decide) ?_
  refine fm_aload_n hc d_Mo_work_10 rfl rfl ?_
  refine fm_iconst (v := nI 0) hc d_Mo_work_11 rfl ?_
  refine fm_putI (k := 50) (v := nI 0) hc K_Mo d_Mo_work_12 q_935 rfl (by decide) (by omega) (by decide) (by decide) (by decide) rfl rfl rfl rfl ?_
  refine fm_aload_n hc d_Mo_work_15 rfl rfl ?_
  refine fm_getR (k := 2) (q := 588) hc K_Mo d_Mo_work_16 q_887 rfl (by decide) (by omega) (by decide) (by decide) (by decide) rfl (rp_lengths hR) ?_
  refine fm_aload_n hc d_Mo_work_19 rfl rfl ?_
  refine fm_getR (k := 20) (q := 605) hc K_Mo d_Mo_work_20 q_905 rfl (by decide) (by omega) (by decide) (by decide) (by decide) rfl (rp_program hR) ?_
  refine fm_iload_n hc d_Mo_work_23 rfl rfl ?_
  refine fm_iald (j := gi) (len := 98) hc 0 d_Mo_work_24 (by decide) (by omega) (by decide) rfl (by omega) (by decide) ?_
  refine fm_top (congrArg Value.int ((p1_other (by decide)).trans ((p1_other (by decide)).trans h605))) ?_
  refine fm_iald (j := p0) (len := 4) hc 0 d_Mo_work_25 (by decide) (by omega) (by decide) rfl (by omega) (by decide) ?_
  refine fm_top (congrArg Value.int ((p1_other (by decide)).trans ((p1_other (by decide)).trans hln))) ?_
  refine fm_istore_n (lv' := [(3, .int (nI ln)), (0, .ref 586), (1, .int (nI gi)), (2, .int h0)]) hc d_Mo_work_26 rfl (by decide) rfl ?_
  refine fm_bipush (v := nI 48) hc d_Mo_work_27 rfl ?_
  refine fm_aload_n hc d_Mo_work_29 rfl rfl ?_
  refine fm_getR (k := 20) (q := 605) hc K_Mo d_Mo_work_30 q_905 rfl (by decide) (by omega) (by decide) (by decide) (by decide) rfl (rp_program hR) ?_
  refine fm_iload_n hc d_Mo_work_33 rfl rfl ?_
  refine fm_iald (j := gi) (len := 98) hc 0 d_Mo_work_34 (by decide) (by omega) (by decide) rfl (by omega) (by decide) ?_
  refine fm_top (congrArg Value.int ((p1_other (by decide)).trans ((p1_other (by decide)).trans h605))) ?_
  refine fm_imul hc d_Mo_work_35 ?_
  refine fm_top (congrArg Value.int (pk_mul 48 p0)) ?_
  refine fm_istore (lv' := [(4, .int (nI (48 * p0))), (3, .int (nI ln)), (0, .ref 586), (1, .int (nI gi)), (2, .int h0)]) hc d_Mo_work_36 (by decide) rfl ?_
  refine fm_aload_n hc d_Mo_work_38 rfl rfl ?_
  refine fm_getR (k := 21) (q := 606) hc K_Mo d_Mo_work_39 q_906 rfl (by decide) (by omega) (by decide) (by decide) (by decide) rfl (rp_place hR) ?_
  refine fm_iload_n hc d_Mo_work_42 rfl rfl ?_
  refine fm_iald (j := gi) (len := 98) hc 0 d_Mo_work_43 (by decide) (by omega) (by decide) rfl (by omega) (by decide) ?_
  refine fm_top (congrArg Value.int ((p1_other (by decide)).trans ((p1_other (by decide)).trans hpl))) ?_
  refine fm_istore (lv' := [(5, .int (nI pl)), (4, .int (nI (48 * p0))), (3, .int (nI ln)), (0, .ref 586), (1, .int (nI gi)), (2, .int h0)]) hc d_Mo_work_44 (by decide) rfl ?_
  refine fm_iload hc d_Mo_work_46 rfl ?_
  refine fm_iload_n hc d_Mo_work_48 rfl rfl ?_
  refine fm_icmp_ge (tgt := 65) hc d_Mo_work_49 rfl (fun g => absurd g (hnle (a := ln) (c := pl) h1 (by omega))) (fun _ => ?_)
  refine fm_aload_n hc d_Mo_work_52 rfl rfl ?_
  refine fm_getR (k := 1) (q := 587) hc K_Mo d_Mo_work_53 q_886 rfl (by decide) (by omega) (by decide) (by decide) (by decide) rfl (rp_bytes hR) ?_
  refine fm_iload hc d_Mo_work_56 rfl ?_
  refine fm_iload hc d_Mo_work_58 rfl ?_
  refine fm_iadd hc d_Mo_work_60 ?_
  refine fm_top (congrArg Value.int (nI_add (48 * p0) pl)) ?_
  refine fm_iald (j := (48 * p0) + pl) (len := 192) hc 0 d_Mo_work_61 (by decide) (by omega) (by decide) rfl (by omega) (by decide) ?_
  refine fm_top (congrArg Value.int ((p1_other (by decide)).trans ((p1_other (by decide)).trans hcc))) ?_
  refine fm_goto (tgt := 68) hc d_Mo_work_62 rfl ?_
  refine fm_istore (lv' := [(6, .int (nI c)), (5, .int (nI pl)), (4, .int (nI (48 * p0))), (3, .int (nI ln)), (0, .ref 586), (1, .int (nI gi)), (2, .int h0)]) hc d_Mo_work_68 (by decide) rfl ?_
  refine fm_iload hc d_Mo_work_70 rfl ?_
  refine fm_callS (av := [.int (nI c)]) (rest := []) (y := y_Mo_isWide) (bytes := b_Mo_isWide) hc fm_T0_good (fm_EX_st b x) hex q_1085 q_13 q_1083 q_1084 pd_Mo_isWide (rc_wide2 (c := c) hz) ⟨rfl, rfl, Nat.le_of_ble_eq_true rfl, Nat.le_of_ble_eq_true rfl⟩ ⟨Nat.le_of_ble_eq_true rfl, Nat.le_of_ble_eq_true rfl⟩ d_Mo_work_72 (Nat.le_of_ble_eq_true rfl) (fun r n2 M2 hp => ?_)
  obtain ⟨rfl, hq1, hq2⟩ := hp
  replace hq1 := hq1.symm
  replace hq2 := hq2.symm
  subst hq1 hq2
  refine fm_cnt (z' := (0, 0)) rfl (fm_st (st' := [.int (nI 1)]) rfl ?_)
  refine fm_if_eq (tgt := 85) hc d_Mo_work_75 rfl (fun g => absurd g (by decide)) (fun _ => ?_)
  refine fm_iload hc d_Mo_work_78 rfl ?_
  refine fm_iconst (v := nI 2) hc d_Mo_work_80 rfl ?_
  refine fm_iadd hc d_Mo_work_81 ?_
  refine fm_top (congrArg Value.int (nI_add pl 2)) ?_
  refine fm_goto (tgt := 89) hc d_Mo_work_82 rfl ?_
  refine fm_istore (lv' := [(7, .int (nI (pl + 2))), (6, .int (nI c)), (5, .int (nI pl)), (4, .int (nI (48 * p0))), (3, .int (nI ln)), (0, .ref 586), (1, .int (nI gi)), (2, .int h0)]) hc d_Mo_work_89 (by decide) rfl ?_
  refine fm_iload hc d_Mo_work_91 rfl ?_
  refine fm_bipush (v := nI 19) hc d_Mo_work_93 rfl ?_
  refine fm_icmp_gt (tgt := 104) hc d_Mo_work_95 rfl (fun g => absurd g (Int32.not_lt.mpr (nI_le h2 (by omega)))) (fun _ => ?_)
  refine fm_iload hc d_Mo_work_98 rfl ?_
  refine fm_iload_n hc d_Mo_work_100 rfl rfl ?_
  refine fm_icmp_le (tgt := 106) hc d_Mo_work_101 rfl (fun _ => ?_) (fun g => absurd (nI_le h3 (by omega)) g)
  refine fm_iload hc d_Mo_work_106 rfl ?_
  refine fm_callS (av := [.int (nI c)]) (rest := []) (y := y_Mo_isWide) (bytes := b_Mo_isWide) hc fm_T0_good (fm_EX_st b x) hex q_1085 q_13 q_1083 q_1084 pd_Mo_isWide (rc_wide2 (c := c) hz) ⟨rfl, rfl, Nat.le_of_ble_eq_true rfl, Nat.le_of_ble_eq_true rfl⟩ ⟨Nat.le_of_ble_eq_true rfl, Nat.le_of_ble_eq_true rfl⟩ d_Mo_work_108 (Nat.le_of_ble_eq_true rfl) (fun r n2 M2 hp => ?_)
  obtain ⟨rfl, hq1, hq2⟩ := hp
  replace hq1 := hq1.symm
  replace hq2 := hq2.symm
  subst hq1 hq2
  refine fm_cnt (z' := (0, 0)) rfl (fm_st (st' := [.int (nI 1)]) rfl ?_)
  refine fm_if_eq (tgt := 129) hc d_Mo_work_111 rfl (fun g => absurd g (by decide)) (fun _ => ?_)
  refine fm_aload_n hc d_Mo_work_114 rfl rfl ?_
  refine fm_getR (k := 1) (q := 587) hc K_Mo d_Mo_work_115 q_886 rfl (by decide) (by omega) (by decide) (by decide) (by decide) rfl (rp_bytes hR) ?_
  refine fm_iload hc d_Mo_work_118 rfl ?_
  refine fm_iload hc d_Mo_work_120 rfl ?_
  refine fm_iadd hc d_Mo_work_122 ?_
  refine fm_top (congrArg Value.int (nI_add (48 * p0) pl)) ?_
  refine fm_iconst (v := nI 1) hc d_Mo_work_123 rfl ?_
  refine fm_iadd hc d_Mo_work_124 ?_
  refine fm_top (congrArg Value.int (nI_add ((48 * p0) + pl) 1)) ?_
  refine fm_iald (j := ((48 * p0) + pl) + 1) (len := 192) hc 0 d_Mo_work_125 (by decide) (by omega) (by decide) rfl (by omega) (by decide) ?_
  refine fm_top (congrArg Value.int ((p1_other (by decide)).trans ((p1_other (by decide)).trans hyy))) ?_
  refine fm_goto (tgt := 130) hc d_Mo_work_126 rfl ?_
  refine fm_istore (lv' := [(8, .int (nI y)), (7, .int (nI (pl + 2))), (6, .int (nI c)), (5, .int (nI pl)), (4, .int (nI (48 * p0))), (3, .int (nI ln)), (0, .ref 586), (1, .int (nI gi)), (2, .int h0)]) hc d_Mo_work_130 (by decide) rfl ?_
  refine fm_aload_n hc d_Mo_work_132 rfl rfl ?_
  refine fm_iload_n hc d_Mo_work_133 rfl rfl ?_
  refine fm_iload hc d_Mo_work_134 rfl ?_
  refine fm_iload hc d_Mo_work_136 rfl ?_
  refine fm_callV (av := [.int (nI gi), .int (nI c), .int (nI y)]) (rest := []) (ob := 586) (ci := 11) (r0 := ("AgentNetModel", F_Mo, 51)) (y := y_Mo_isFit) (bytes := b_Mo_isFit) hc fm_T0_good (fm_EX_st b x) hex q_1089 q_13 q_1086 q_1088 qs_Mo_isFit pd_Mo_isFit (by decide) (by omega) (by decide) (by decide) rfl rfl (hif) ⟨rfl, rfl, Nat.le_of_ble_eq_true rfl, Nat.le_of_ble_eq_true rfl⟩ ⟨Nat.le_of_ble_eq_true rfl, Nat.le_of_ble_eq_true rfl⟩ d_Mo_work_138 (Nat.le_of_ble_eq_true rfl) (fun r n2 M2 hp => ?_)
  obtain ⟨rfl, hq1, f1⟩ := hp
  replace hq1 := hq1.symm
  subst hq1
  revert f1
  generalize M2 = Ma
  intro f1
  have hRa := frK_RP f1 hR
  refine fm_cnt (z' := (0, 0)) rfl (fm_st (st' := [.int (nI 1)]) rfl ?_)
  refine fm_if_ne (tgt := 146) hc d_Mo_work_141 rfl (fun _ => ?_) (fun g => absurd g (by decide))
  refine fm_aload_n hc d_Mo_work_146 rfl rfl ?_
  refine fm_getR (k := 21) (q := 606) hc K_Mo d_Mo_work_147 q_906 rfl (by decide) (by omega) (by decide) (by decide) (by decide) rfl (rp_place hRa) ?_
  refine fm_iload_n hc d_Mo_work_150 rfl rfl ?_
  refine fm_iload hc d_Mo_work_151 rfl ?_
  refine fm_iast (j := gi) (len := 98) (v := nI (pl + 2)) hc 0 d_Mo_work_153 (by decide) (by omega) (by decide) rfl (by omega) (by decide) ?_
  refine fm_aload_n hc d_Mo_work_154 rfl rfl ?_
  refine fm_iload_n hc d_Mo_work_155 rfl rfl ?_
  refine fm_iload_n hc d_Mo_work_156 rfl rfl ?_
  refine fm_iload hc d_Mo_work_157 rfl ?_
  refine fm_iload hc d_Mo_work_159 rfl ?_
  refine fm_callV (av := [.int (nI gi), .int h0, .int (nI c), .int (nI y)]) (rest := []) (ob := 586) (ci := 11) (r0 := ("AgentNetModel", F_Mo, 51)) (y := y_Mo_perform) (bytes := b_Mo_perform) hc fm_T0_good (fm_EX_st b x) hex q_1117 q_13 q_1114 q_1116 qs_Mo_perform pd_Mo_perform (by decide) (by omega) (by decide) (by decide) rfl rfl (hpf _ f1) ⟨rfl, rfl, Nat.le_of_ble_eq_true rfl, Nat.le_of_ble_eq_true rfl⟩ ⟨Nat.le_of_ble_eq_true rfl, Nat.le_of_ble_eq_true rfl⟩ d_Mo_work_161 (Nat.le_of_ble_eq_true rfl) (fun r n2 M2 hp => ?_)
  obtain ⟨rfl, hq1, hpp⟩ := hp
  replace hq1 := hq1.symm
  subst hq1
  refine fm_cnt (z' := (0, 0)) rfl (fm_st (st' := []) rfl ?_)
  refine fm_iconst (v := nI 1) hc d_Mo_work_164 rfl ?_
  exact fm_zret (ty := .boolean) hc hr (by first | rfl | decide) d_Mo_work_165 (Nat.le_refl _) (Nat.le_refl _) ⟨rfl, rfl, hpp⟩
theorem wk_4n {l : Launch} {b : Nat} {x : Nat → Nat} {D : va_G} {dA : Nat → ClassId} {gi p0 ln pl fu c : Nat} {h0 : Int32}  {n : Nat} {M : fm_M} (hn : 629 ≤ n) (hR : fm_RP M) (hg : gi < 98) (hp : p0 < 4) (h605 : M.1 605 gi = nI p0) (hln : M.1 588 p0 = nI ln) (hl48 : ln ≤ 48) (hpl : M.1 606 gi = nI pl) (hpl9 : pl < 900) (hfu : M.1 607 gi = nI fu) (hf1 : 1 ≤ fu) (hf2 : fu < 1000) (h1 : pl < ln) (hcc : M.1 587 (48 * p0 + pl) = nI c) (hc6 : c < 256) (hz : ¬ ag_sz c = 2) (h2 : c ≤ 19) (hif : Met l y_Mo_isFit (Cond.code y_Mo_isFit b_Mo_isFit 4 (some .boolean) :: fm_T0) ({ frames := 3, cells := 0, slots := 0, locals := 80 }) (fm_Pc fm_lay fm_nf fm_fk fm_cl b x D dA (fm_tys dA) (fm_EX b x) false [.ref 586, .int (nI gi), .int (nI c), .int (nI 0)] n (fm_put1 (fm_put1 M 607 gi (nI (fu - 1))) 586 50 (nI 0))) (fm_Qc fm_lay fm_nf fm_fk fm_cl b x D dA (fun r n' M' => r = some (.int (nI 0)) ∧ n' = n ∧ fr_K (fm_put1 (fm_put1 M 607 gi (nI (fu - 1))) 586 50 (nI 0)) M')) 0 0 (fm_A b)) : Met l y_Mo_work (Cond.code y_Mo_work b_Mo_work 9 (some .boolean) :: fm_T0) ({ frames := 7, cells := 0, slots := 0, locals := 210 }) (fm_Pc fm_lay fm_nf fm_fk fm_cl b x D dA (fm_tys dA) (fm_EX b x) false [.ref 586, .int (nI gi), .int h0] n M) (fm_Qc fm_lay fm_nf fm_fk fm_cl b x D dA (fun r n' M' => r = some (.int (nI 0)) ∧ n' = n ∧ fr_K (fm_put1 (fm_put1 M 607 gi (nI (fu - 1))) 586 50 (nI 0)) M')) 0 0 (fm_A b) := by
  refine fm_enter (by decide) (Nat.le_of_ble_eq_true rfl) ?_
  intro p e s m args below meth c9 hc hr hnm hex htg
  refine fm_aload_n hc d_Mo_work_0 rfl rfl ?_
  refine fm_getR (k := 22) (q := 607) hc K_Mo d_Mo_work_1 q_907 rfl (by decide) (by omega) (by decide) (by decide) (by decide) rfl (rp_fuel hR) ?_
  refine fm_iload_n hc d_Mo_work_4 rfl rfl ?_
  refine fm_dup2_11 hc d_Mo_work_5 rfl rfl ?_
  refine fm_iald (j := gi) (len := 98) hc 0 d_Mo_work_6 (by decide) (by omega) (by decide) rfl (by omega) (by decide) ?_
  refine fm_top (congrArg Value.int hfu) ?_
  refine fm_iconst (v := nI 1) hc d_Mo_work_7 rfl ?_
  refine fm_isub hc d_Mo_work_8 ?_
  refine fm_top (congrArg Value.int (pk_sub (a := fu) (b := 1) (by omega))) ?_
  refine fm_iast (j := gi) (len := 98) (v := nI (fu - 1)) hc 0 d_Mo_work_9 (by decide) (by omega) (by decide) rfl (by omega) (by decide) ?_
  refine fm_aload_n hc d_Mo_work_10 rfl rfl ?_
  refine fm_iconst (v := nI 0) hc d_Mo_work_11 rfl ?_
  refine fm_putI (k := 50) (v := nI 0) hc K_Mo d_Mo_work_12 q_935 rfl (by decide) (by omega) (by decide) (by decide) (by decide) rfl rfl rfl rfl ?_
  refine fm_aload_n hc d_Mo_work_15 rfl rfl ?_
  refine fm_getR (k := 2) (q := 588) hc K_Mo d_Mo_work_16 q_887 rfl (by decide) (by omega) (by decide) (by decide) (by decide) rfl (rp_lengths hR) ?_
  refine fm_aload_n hc d_Mo_work_19 rfl rfl ?_
  refine fm_getR (k := 20) (q := 605) hc K_Mo d_Mo_work_20 q_905 rfl (by decide) (by omega) (by decide) (by decide) (by decide) rfl (rp_program hR) ?_
  refine fm_iload_n hc d_Mo_work_23 rfl rfl ?_
  refine fm_iald (j := gi) (len := 98) hc 0 d_Mo_work_24 (by decide) (by omega) (by decide) rfl (by omega) (by decide) ?_
  refine fm_top (congrArg Value.int ((p1_other (by decide)).trans ((p1_other (by decide)).trans h605))) ?_
  refine fm_iald (j := p0) (len := 4) hc 0 d_Mo_work_25 (by decide) (by omega) (by decide) rfl (by omega) (by decide) ?_
  refine fm_top (congrArg Value.int ((p1_other (by decide)).trans ((p1_other (by decide)).trans hln))) ?_
  refine fm_istore_n (lv' := [(3, .int (nI ln)), (0, .ref 586), (1, .int (nI gi)), (2, .int h0)]) hc d_Mo_work_26 rfl (by decide) rfl ?_
  refine fm_bipush (v := nI 48) hc d_Mo_work_27 rfl ?_
  refine fm_aload_n hc d_Mo_work_29 rfl rfl ?_
  refine fm_getR (k := 20) (q := 605) hc K_Mo d_Mo_work_30 q_905 rfl (by decide) (by omega) (by decide) (by decide) (by decide) rfl (rp_program hR) ?_
  refine fm_iload_n hc d_Mo_work_33 rfl rfl ?_
  refine fm_iald (j := gi) (len := 98) hc 0 d_Mo_work_34 (by decide) (by omega) (by decide) rfl (by omega) (by decide) ?_
  refine fm_top (congrArg Value.int ((p1_other (by decide)).trans ((p1_other (by decide)).trans h605))) ?_
  refine fm_imul hc d_Mo_work_35 ?_
  refine fm_top (congrArg Value.int (pk_mul 48 p0)) ?_
  refine fm_istore (lv' := [(4, .int (nI (48 * p0))), (3, .int (nI ln)), (0, .ref 586), (1, .int (nI gi)), (2, .int h0)]) hc d_Mo_work_36 (by decide) rfl ?_
  refine fm_aload_n hc d_Mo_work_38 rfl rfl ?_
  refine fm_getR (k := 21) (q := 606) hc K_Mo d_Mo_work_39 q_906 rfl (by decide) (by omega) (by decide) (by decide) (by decide) rfl (rp_place hR) ?_
  refine fm_iload_n hc d_Mo_work_42 rfl rfl ?_
  refine fm_iald (j := gi) (len := 98) hc 0 d_Mo_work_43 (by decide) (by omega) (by decide) rfl (by omega) (by decide) ?_
  refine fm_top (congrArg Value.int ((p1_other (by decide)).trans ((p1_other (by decide)).trans hpl))) ?_
  refine fm_istore (lv' := [(5, .int (nI pl)), (4, .int (nI (48 * p0))), (3, .int (nI ln)), (0, .ref 586), (1, .int (nI gi)), (2, .int h0)]) hc d_Mo_work_44 (by decide) rfl ?_
  refine fm_iload hc d_Mo_work_46 rfl ?_
  refine fm_iload_n hc d_Mo_work_48 rfl rfl ?_
  refine fm_icmp_ge (tgt := 65) hc d_Mo_work_49 rfl (fun g => absurd g (hnle (a := ln) (c := pl) h1 (by omega))) (fun _ => ?_)
  refine fm_aload_n hc d_Mo_work_52 rfl rfl ?_
  refine fm_getR (k := 1) (q := 587) hc K_Mo d_Mo_work_53 q_886 rfl (by decide) (by omega) (by decide) (by decide) (by decide) rfl (rp_bytes hR) ?_
  refine fm_iload hc d_Mo_work_56 rfl ?_
  refine fm_iload hc d_Mo_work_58 rfl ?_
  refine fm_iadd hc d_Mo_work_60 ?_
  refine fm_top (congrArg Value.int (nI_add (48 * p0) pl)) ?_
  refine fm_iald (j := (48 * p0) + pl) (len := 192) hc 0 d_Mo_work_61 (by decide) (by omega) (by decide) rfl (by omega) (by decide) ?_
  refine fm_top (congrArg Value.int ((p1_other (by decide)).trans ((p1_other (by decide)).trans hcc))) ?_
  refine fm_goto (tgt := 68) hc d_Mo_work_62 rfl ?_
  refine fm_istore (lv' := [(6, .int (nI c)), (5, .int (nI pl)), (4, .int (nI (48 * p0))), (3, .int (nI ln)), (0, .ref 586), (1, .int (nI gi)), (2, .int h0)]) hc d_Mo_work_68 (by decide) rfl ?_
  refine fm_iload hc d_Mo_work_70 rfl ?_
  refine fm_callS (av := [.int (nI c)]) (rest := []) (y := y_Mo_isWide) (bytes := b_Mo_isWide) hc fm_T0_good (fm_EX_st b x) hex q_1085 q_13 q_1083 q_1084 pd_Mo_isWide (rc_wide1 (c := c) hc6 hz) ⟨rfl, rfl, Nat.le_of_ble_eq_true rfl, Nat.le_of_ble_eq_true rfl⟩ ⟨Nat.le_of_ble_eq_true rfl, Nat.le_of_ble_eq_true rfl⟩ d_Mo_work_72 (Nat.le_of_ble_eq_true rfl) (fun r n2 M2 hp => ?_)
  obtain ⟨rfl, hq1, hq2⟩ := hp
  replace hq1 := hq1.symm
  replace hq2 := hq2.symm
  subst hq1 hq2
  refine fm_cnt (z' := (0, 0)) rfl (fm_st (st' := [.int (nI 0)]) rfl ?_)
  refine fm_if_eq (tgt := 85) hc d_Mo_work_75 rfl (fun _ => ?_) (fun g => absurd (by decide) g)
  refine fm_iload hc d_Mo_work_85 rfl ?_
  refine fm_iconst (v := nI 1) hc d_Mo_work_87 rfl ?_
  refine fm_iadd hc d_Mo_work_88 ?_
  refine fm_top (congrArg Value.int (nI_add pl 1)) ?_
  refine fm_istore (lv' := [(7, .int (nI (pl + 1))), (6, .int (nI c)), (5, .int (nI pl)), (4, .int (nI (48 * p0))), (3, .int (nI ln)), (0, .ref 586), (1, .int (nI gi)), (2, .int h0)]) hc d_Mo_work_89 (by decide) rfl ?_
  refine fm_iload hc d_Mo_work_91 rfl ?_
  refine fm_bipush (v := nI 19) hc d_Mo_work_93 rfl ?_
  refine fm_icmp_gt (tgt := 104) hc d_Mo_work_95 rfl (fun g => absurd g (Int32.not_lt.mpr (nI_le h2 (by omega)))) (fun _ => ?_)
  refine fm_iload hc d_Mo_work_98 rfl ?_
  refine fm_iload_n hc d_Mo_work_100 rfl rfl ?_
  refine fm_icmp_le (tgt := 106) hc d_Mo_work_101 rfl (fun _ => ?_) (fun g => absurd (nI_le (show pl + 1 ≤ ln by omega) (by omega)) g)
  refine fm_iload hc d_Mo_work_106 rfl ?_
  refine fm_callS (av := [.int (nI c)]) (rest := []) (y := y_Mo_isWide) (bytes := b_Mo_isWide) hc fm_T0_good (fm_EX_st b x) hex q_1085 q_13 q_1083 q_1084 pd_Mo_isWide (rc_wide1 (c := c) hc6 hz) ⟨rfl, rfl, Nat.le_of_ble_eq_true rfl, Nat.le_of_ble_eq_true rfl⟩ ⟨Nat.le_of_ble_eq_true rfl, Nat.le_of_ble_eq_true rfl⟩ d_Mo_work_108 (Nat.le_of_ble_eq_true rfl) (fun r n2 M2 hp => ?_)
  obtain ⟨rfl, hq1, hq2⟩ := hp
  replace hq1 := hq1.symm
  replace hq2 := hq2.symm
  subst hq1 hq2
  refine fm_cnt (z' := (0, 0)) rfl (fm_st (st' := [.int (nI 0)]) rfl ?_)
  refine fm_if_eq (tgt := 129) hc d_Mo_work_111 rfl (fun _ => ?_) (fun g => absurd (by decide) g)
  refine fm_iconst (v := nI 0) hc d_Mo_work_129 rfl ?_
  refine fm_istore (lv' := [(8, .int (nI 0)), (7, .int (nI (pl + 1))), (6, .int (nI c)), (5, .int (nI pl)), (4, .int (nI (48 * p0))), (3, .int (nI ln)), (0, .ref 586), (1, .int (nI gi)), (2, .int h0)]) hc d_Mo_work_130 (by decide) rfl ?_
  refine fm_aload_n hc d_Mo_work_132 rfl rfl ?_
  refine fm_iload_n hc d_Mo_work_133 rfl rfl ?_
  refine fm_iload hc d_Mo_work_134 rfl ?_
  refine fm_iload hc d_Mo_work_136 rfl ?_
  refine fm_callV (av := [.int (nI gi), .int (nI c), .int (nI 0)]) (rest := []) (ob := 586) (ci := 11) (r0 := ("AgentNetModel", F_Mo, 51)) (y := y_Mo_isFit) (bytes := b_Mo_isFit) hc fm_T0_good (fm_EX_st b x) hex q_1089 q_13 q_1086 q_1088 qs_Mo_isFit pd_Mo_isFit (by decide) (by omega) (by decide) (by decide) rfl rfl (hif) ⟨rfl, rfl, Nat.le_of_ble_eq_true rfl, Nat.le_of_ble_eq_true rfl⟩ ⟨Nat.le_of_ble_eq_true rfl, Nat.le_of_ble_eq_true rfl⟩ d_Mo_work_138 (Nat.le_of_ble_eq_true rfl) (fun r n2 M2 hp => ?_)
  obtain ⟨rfl, hq1, f1⟩ := hp
  replace hq1 := hq1.symm
  subst hq1
  revert f1
  generalize M2 = Ma
  intro f1
  have hRa := frK_RP f1 hR
  refine fm_cnt (z' := (0, 0)) rfl (fm_st (st' := [.int (nI 0)]) rfl ?_)
  refine fm_if_ne (tgt := 146) hc d_Mo_work_141 rfl (fun g => absurd (by decide) g) (fun _ => ?_)
  refine fm_iconst (v := nI 0) hc d_Mo_work_144 rfl ?_
  exact fm_zret (ty := .boolean) hc hr (by first | rfl | decide) d_Mo_work_145 (Nat.le_refl _) (Nat.le_refl _) ⟨rfl, rfl, f1⟩
theorem wk_5n {l : Launch} {b : Nat} {x : Nat → Nat} {D : va_G} {dA : Nat → ClassId} {gi p0 ln pl fu c : Nat} {h0 : Int32} {PR : fm_M → Prop} {n : Nat} {M : fm_M} (hn : 629 ≤ n) (hR : fm_RP M) (hg : gi < 98) (hp : p0 < 4) (h605 : M.1 605 gi = nI p0) (hln : M.1 588 p0 = nI ln) (hl48 : ln ≤ 48) (hpl : M.1 606 gi = nI pl) (hpl9 : pl < 900) (hfu : M.1 607 gi = nI fu) (hf1 : 1 ≤ fu) (hf2 : fu < 1000) (h1 : pl < ln) (hcc : M.1 587 (48 * p0 + pl) = nI c) (hc6 : c < 256) (hz : ¬ ag_sz c = 2) (h2 : c ≤ 19) (hif : Met l y_Mo_isFit (Cond.code y_Mo_isFit b_Mo_isFit 4 (some .boolean) :: fm_T0) ({ frames := 3, cells := 0, slots := 0, locals := 80 }) (fm_Pc fm_lay fm_nf fm_fk fm_cl b x D dA (fm_tys dA) (fm_EX b x) false [.ref 586, .int (nI gi), .int (nI c), .int (nI 0)] n (fm_put1 (fm_put1 M 607 gi (nI (fu - 1))) 586 50 (nI 0))) (fm_Qc fm_lay fm_nf fm_fk fm_cl b x D dA (fun r n' M' => r = some (.int (nI 1)) ∧ n' = n ∧ fr_K (fm_put1 (fm_put1 M 607 gi (nI (fu - 1))) 586 50 (nI 0)) M')) 0 0 (fm_A b)) (hpf : ∀ Mk, fr_K (fm_put1 (fm_put1 M 607 gi (nI (fu - 1))) 586 50 (nI 0)) Mk → Met l y_Mo_perform (Cond.code y_Mo_perform b_Mo_perform 5 none :: fm_T0) ({ frames := 6, cells := 0, slots := 0, locals := 170 }) (fm_Pc fm_lay fm_nf fm_fk fm_cl b x D dA (fm_tys dA) (fm_EX b x) false [.ref 586, .int (nI gi), .int h0, .int (nI c), .int (nI 0)] n (fm_put1 Mk 606 gi (nI (pl + 1)))) (fm_Qc fm_lay fm_nf fm_fk fm_cl b x D dA (fun r n' M' => r = none ∧ n' = n ∧ PR M')) 0 0 (fm_A b)) : Met l y_Mo_work (Cond.code y_Mo_work b_Mo_work 9 (some .boolean) :: fm_T0) ({ frames := 7, cells := 0, slots := 0, locals := 210 }) (fm_Pc fm_lay fm_nf fm_fk fm_cl b x D dA (fm_tys dA) (fm_EX b x) false [.ref 586, .int (nI gi), .int h0] n M) (fm_Qc fm_lay fm_nf fm_fk fm_cl b x D dA (fun r n' M' => r = some (.int (nI 1)) ∧ n' = n ∧ PR M')) 0 0 (fm_A b) := by
  refine fm_enter (by decide) (Nat.le_of_ble_eq_true rfl) ?_
  intro p e s m args below meth c9 hc hr hnm hex htg
  refine fm_aload_n hc d_Mo_work_0 rfl rfl ?_
  refine fm_getR (k := 22) (q := 607) hc K_Mo d_Mo_work_1 q_907 rfl (by decide) (by omega) (by decide) (by decide) (by decide) rfl (rp_fuel hR) ?_
  refine fm_iload_n hc d_Mo_work_4 rfl rfl ?_
  refine fm_dup2_11 hc d_Mo_work_5 rfl rfl ?_
  refine fm_iald (j := gi) (len := 98) hc 0 d_Mo_work_6 (by decide) (by omega) (by decide) rfl (by omega) (by decide) ?_
  refine fm_top (congrArg Value.int hfu) ?_
  refine fm_iconst (v := nI 1) hc d_Mo_work_7 rfl ?_
  refine fm_isub hc d_Mo_work_8 ?_
  refine fm_top (congrArg Value.int (pk_sub (a := fu) (b := 1) (by omega))) ?_
  refine fm_iast (j := gi) (len := 98) (v := nI (fu - 1)) hc 0 d_Mo_work_9 (by decide) (by omega) (by decide) rfl (by omega) (by decide) ?_
  refine fm_aload_n hc d_Mo_work_10 rfl rfl ?_
  refine fm_iconst (v := nI 0) hc d_Mo_work_11 rfl ?_
  refine fm_putI (k := 50) (v := nI 0) hc K_Mo d_Mo_work_12 q_935 rfl (by decide) (by omega) (by decide) (by decide) (by decide) rfl rfl rfl rfl ?_
  refine fm_aload_n hc d_Mo_work_15 rfl rfl ?_
  refine fm_getR (k := 2) (q := 588) hc K_Mo d_Mo_work_16 q_887 rfl (by decide) (by omega) (by decide) (by decide) (by decide) rfl (rp_lengths hR) ?_
  refine fm_aload_n hc d_Mo_work_19 rfl rfl ?_
  refine fm_getR (k := 20) (q := 605) hc K_Mo d_Mo_work_20 q_905 rfl (by decide) (by omega) (by decide) (by decide) (by decide) rfl (rp_program hR) ?_
  refine fm_iload_n hc d_Mo_work_23 rfl rfl ?_
  refine fm_iald (j := gi) (len := 98) hc 0 d_Mo_work_24 (by decide) (by omega) (by decide) rfl (by omega) (by decide) ?_
  refine fm_top (congrArg Value.int ((p1_other (by decide)).trans ((p1_other (by decide)).trans h605))) ?_
  refine fm_iald (j := p0) (len := 4) hc 0 d_Mo_work_25 (by decide) (by omega) (by decide) rfl (by omega) (by decide) ?_
  refine fm_top (congrArg Value.int ((p1_other (by decide)).trans ((p1_other (by decide)).trans hln))) ?_
  refine fm_istore_n (lv' := [(3, .int (nI ln)), (0, .ref 586), (1, .int (nI gi)), (2, .int h0)]) hc d_Mo_work_26 rfl (by decide) rfl ?_
  refine fm_bipush (v := nI 48) hc d_Mo_work_27 rfl ?_
  refine fm_aload_n hc d_Mo_work_29 rfl rfl ?_
  refine fm_getR (k := 20) (q := 605) hc K_Mo d_Mo_work_30 q_905 rfl (by decide) (by omega) (by decide) (by decide) (by decide) rfl (rp_program hR) ?_
  refine fm_iload_n hc d_Mo_work_33 rfl rfl ?_
  refine fm_iald (j := gi) (len := 98) hc 0 d_Mo_work_34 (by decide) (by omega) (by decide) rfl (by omega) (by decide) ?_
  refine fm_top (congrArg Value.int ((p1_other (by decide)).trans ((p1_other (by decide)).trans h605))) ?_
  refine fm_imul hc d_Mo_work_35 ?_
  refine fm_top (congrArg Value.int (pk_mul 48 p0)) ?_
  refine fm_istore (lv' := [(4, .int (nI (48 * p0))), (3, .int (nI ln)), (0, .ref 586), (1, .int (nI gi)), (2, .int h0)]) hc d_Mo_work_36 (by decide) rfl ?_
  refine fm_aload_n hc d_Mo_work_38 rfl rfl ?_
  refine fm_getR (k := 21) (q := 606) hc K_Mo d_Mo_work_39 q_906 rfl (by decide) (by omega) (by decide) (by decide) (by decide) rfl (rp_place hR) ?_
  refine fm_iload_n hc d_Mo_work_42 rfl rfl ?_
  refine fm_iald (j := gi) (len := 98) hc 0 d_Mo_work_43 (by decide) (by omega) (by decide) rfl (by omega) (by decide) ?_
  refine fm_top (congrArg Value.int ((p1_other (by decide)).trans ((p1_other (by decide)).trans hpl))) ?_
  refine fm_istore (lv' := [(5, .int (nI pl)), (4, .int (nI (48 * p0))), (3, .int (nI ln)), (0, .ref 586), (1, .int (nI gi)), (2, .int h0)]) hc d_Mo_work_44 (by decide) rfl ?_
  refine fm_iload hc d_Mo_work_46 rfl ?_
  refine fm_iload_n hc d_Mo_work_48 rfl rfl ?_
  refine fm_icmp_ge (tgt := 65) hc d_Mo_work_49 rfl (fun g => absurd g (hnle (a := ln) (c := pl) h1 (by omega))) (fun _ => ?_)
  refine fm_aload_n hc d_Mo_work_52 rfl rfl ?_
  refine fm_getR (k := 1) (q := 587) hc K_Mo d_Mo_work_53 q_886 rfl (by decide) (by omega) (by decide) (by decide) (by decide) rfl (rp_bytes hR) ?_
  refine fm_iload hc d_Mo_work_56 rfl ?_
  refine fm_iload hc d_Mo_work_58 rfl ?_
  refine fm_iadd hc d_Mo_work_60 ?_
  refine fm_top (congrArg Value.int (nI_add (48 * p0) pl)) ?_
  refine fm_iald (j := (48 * p0) + pl) (len := 192) hc 0 d_Mo_work_61 (by decide) (by omega) (by decide) rfl (by omega) (by decide) ?_
  refine fm_top (congrArg Value.int ((p1_other (by decide)).trans ((p1_other (by decide)).trans hcc))) ?_
  refine fm_goto (tgt := 68) hc d_Mo_work_62 rfl ?_
  refine fm_istore (lv' := [(6, .int (nI c)), (5, .int (nI pl)), (4, .int (nI (48 * p0))), (3, .int (nI ln)), (0, .ref 586), (1, .int (nI gi)), (2, .int h0)]) hc d_Mo_work_68 (by decide) rfl ?_
  refine fm_iload hc d_Mo_work_70 rfl ?_
  refine fm_callS (av := [.int (nI c)]) (rest := []) (y := y_Mo_isWide) (bytes := b_Mo_isWide) hc fm_T0_good (fm_EX_st b x) hex q_1085 q_13 q_1083 q_1084 pd_Mo_isWide (rc_wide1 (c := c) hc6 hz) ⟨rfl, rfl, Nat.le_of_ble_eq_true rfl, Nat.le_of_ble_eq_true rfl⟩ ⟨Nat.le_of_ble_eq_true rfl, Nat.le_of_ble_eq_true rfl⟩ d_Mo_work_72 (Nat.le_of_ble_eq_true rfl) (fun r n2 M2 hp => ?_)
  obtain ⟨rfl, hq1, hq2⟩ := hp
  replace hq1 := hq1.symm
  replace hq2 := hq2.symm
  subst hq1 hq2
  refine fm_cnt (z' := (0, 0)) rfl (fm_st (st' := [.int (nI 0)]) rfl ?_)
  refine fm_if_eq (tgt := 85) hc d_Mo_work_75 rfl (fun _ => ?_) (fun g => absurd (by decide) g)
  refine fm_iload hc d_Mo_work_85 rfl ?_
  refine fm_iconst (v := nI 1) hc d_Mo_work_87 rfl ?_
  refine fm_iadd hc d_Mo_work_88 ?_
  refine fm_top (congrArg Value.int (nI_add pl 1)) ?_
  refine fm_istore (lv' := [(7, .int (nI (pl + 1))), (6, .int (nI c)), (5, .int (nI pl)), (4, .int (nI (48 * p0))), (3, .int (nI ln)), (0, .ref 586), (1, .int (nI gi)), (2, .int h0)]) hc d_Mo_work_89 (by decide) rfl ?_
  refine fm_iload hc d_Mo_work_91 rfl ?_
  refine fm_bipush (v := nI 19) hc d_Mo_work_93 rfl ?_
  refine fm_icmp_gt (tgt := 104) hc d_Mo_work_95 rfl (fun g => absurd g (Int32.not_lt.mpr (nI_le h2 (by omega)))) (fun _ => ?_)
  refine fm_iload hc d_Mo_work_98 rfl ?_
  refine fm_iload_n hc d_Mo_work_100 rfl rfl ?_
  refine fm_icmp_le (tgt := 106) hc d_Mo_work_101 rfl (fun _ => ?_) (fun g => absurd (nI_le (show pl + 1 ≤ ln by omega) (by omega)) g)
  refine fm_iload hc d_Mo_work_106 rfl ?_
  refine fm_callS (av := [.int (nI c)]) (rest := []) (y := y_Mo_isWide) (bytes := b_Mo_isWide) hc fm_T0_good (fm_EX_st b x) hex q_1085 q_13 q_1083 q_1084 pd_Mo_isWide (rc_wide1 (c := c) hc6 hz) ⟨rfl, rfl, Nat.le_of_ble_eq_true rfl, Nat.le_of_ble_eq_true rfl⟩ ⟨Nat.le_of_ble_eq_true rfl, Nat.le_of_ble_eq_true rfl⟩ d_Mo_work_108 (Nat.le_of_ble_eq_true rfl) (fun r n2 M2 hp => ?_)
  obtain ⟨rfl, hq1, hq2⟩ := hp
  replace hq1 := hq1.symm
  replace hq2 := hq2.symm
  subst hq1 hq2
  refine fm_cnt (z' := (0, 0)) rfl (fm_st (st' := [.int (nI 0)]) rfl ?_)
  refine fm_if_eq (tgt := 129) hc d_Mo_work_111 rfl (fun _ => ?_) (fun g => absurd (by decide) g)
  refine fm_iconst (v := nI 0) hc d_Mo_work_129 rfl ?_
  refine fm_istore (lv' := [(8, .int (nI 0)), (7, .int (nI (pl + 1))), (6, .int (nI c)), (5, .int (nI pl)), (4, .int (nI (48 * p0))), (3, .int (nI ln)), (0, .ref 586), (1, .int (nI gi)), (2, .int h0)]) hc d_Mo_work_130 (by decide) rfl ?_
  refine fm_aload_n hc d_Mo_work_132 rfl rfl ?_
  refine fm_iload_n hc d_Mo_work_133 rfl rfl ?_
  refine fm_iload hc d_Mo_work_134 rfl ?_
  refine fm_iload hc d_Mo_work_136 rfl ?_
  refine fm_callV (av := [.int (nI gi), .int (nI c), .int (nI 0)]) (rest := []) (ob := 586) (ci := 11) (r0 := ("AgentNetModel", F_Mo, 51)) (y := y_Mo_isFit) (bytes := b_Mo_isFit) hc fm_T0_good (fm_EX_st b x) hex q_1089 q_13 q_1086 q_1088 qs_Mo_isFit pd_Mo_isFit (by decide) (by omega) (by decide) (by decide) rfl rfl (hif) ⟨rfl, rfl, Nat.le_of_ble_eq_true rfl, Nat.le_of_ble_eq_true rfl⟩ ⟨Nat.le_of_ble_eq_true rfl, Nat.le_of_ble_eq_true rfl⟩ d_Mo_work_138 (Nat.le_of_ble_eq_true rfl) (fun r n2 M2 hp => ?_)
  obtain ⟨rfl, hq1, f1⟩ := hp
  replace hq1 := hq1.symm
  subst hq1
  revert f1
  generalize M2 = Ma
  intro f1
  have hRa := frK_RP f1 hR
  refine fm_cnt (z' := (0, 0)) rfl (fm_st (st' := [.int (nI 1)]) rfl ?_)
  refine fm_if_ne (tgt := 146) hc d_Mo_work_141 rfl (fun _ => ?_) (fun g => absurd g (by decide))
  refine fm_aload_n hc d_Mo_work_146 rfl rfl ?_
  refine fm_getR (k := 21) (q := 606) hc K_Mo d_Mo_work_147 q_906 rfl (by decide) (by omega) (by decide) (by decide) (by decide) rfl (rp_place hRa) ?_
  refine fm_iload_n hc d_Mo_work_150 rfl rfl ?_
  refine fm_iload hc d_Mo_work_151 rfl ?_
  refine fm_iast (j := gi) (len := 98) (v := nI (pl + 1)) hc 0 d_Mo_work_153 (by decide) (by omega) (by decide) rfl (by omega) (by decide) ?_
  refine fm_aload_n hc d_Mo_work_154 rfl rfl ?_
  refine fm_iload_n hc d_Mo_work_155 rfl rfl ?_
  refine fm_iload_n hc d_Mo_work_156 rfl rfl ?_
  refine fm_iload hc d_Mo_work_157 rfl ?_
  refine fm_iload hc d_Mo_work_159 rfl ?_
  refine fm_callV (av := [.int (nI gi), .int h0, .int (nI c), .int (nI 0)]) (rest := []) (ob := 586) (ci := 11) (r0 := ("AgentNetModel", F_Mo, 51)) (y := y_Mo_perform) (bytes := b_Mo_perform) hc fm_T0_good (fm_EX_st b x) hex q_1117 q_13 q_1114 q_1116 qs_Mo_perform pd_Mo_perform (by decide) (by omega) (by decide) (by decide) rfl rfl (hpf _ f1) ⟨rfl, rfl, Nat.le_of_ble_eq_true rfl, Nat.le_of_ble_eq_true rfl⟩ ⟨Nat.le_of_ble_eq_true rfl, Nat.le_of_ble_eq_true rfl⟩ d_Mo_work_161 (Nat.le_of_ble_eq_true rfl) (fun r n2 M2 hp => ?_)
  obtain ⟨rfl, hq1, hpp⟩ := hp
  replace hq1 := hq1.symm
  subst hq1
  refine fm_cnt (z' := (0, 0)) rfl (fm_st (st' := []) rfl ?_)
  refine fm_iconst (v := nI 1) hc d_Mo_work_164 rfl ?_
  exact fm_zret (ty := .boolean) hc hr (by first | rfl | decide) d_Mo_work_165 (Nat.le_refl _) (Nat.le_refl _) ⟨rfl, rfl, hpp⟩
