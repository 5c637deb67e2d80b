/-! THE REFERENCE: cloning that succeeds -/
theorem hrG_o2 {M : fm_M} {r o j : Nat} {v : Int64} {F : Nat → Prop} {A : ag_T} {g : Nat → Nat} (ok : ag_ok A) (h1 : ¬ (o = 613 ∧ 6 * r ≤ j ∧ j < 6 * r + 6)) (h2 : o ≠ 615) (h3 : o ≠ 616) (h : hr_G M r F A g) : hr_G (fm_put2 M o j v) r F A g := by
  refine hrG_at1 ok h (fun _ _ _ => rfl) (fun k hk => ?_) (fun k hk => ⟨p2_other (Ne.symm h2), p2_other (Ne.symm h3)⟩)
  by_cases e : o = 613
  · subst e
    exact p2_at (by omega)
  · exact p2_other (fun q => e q.symm)
theorem ok_kid {A : ag_T} {w : Nat} (ok : ag_ok A) (h : A.2.1.length < 6) : ag_ok (ag_kid A w) := ok_push (N := A.1) ok h trivial
theorem rc_clone_m {l : Launch} {b : Nat} {x : Nat → Nat} {D : va_G} {dA : Nat → ClassId} {gi he w n : Nat} {F : Nat → Prop} {A : ag_T} {g : Nat → Nat} {M : fm_M} (hn : 629 ≤ n) (hR : fm_RP M) (hh : he < 4) (hg : gi < 96) (hp : gi % 8 < 4) (h : hr_G M gi F A g) (ok : ag_ok A) (hd6 : A.2.1.length < 6) (hF3 : F 3) (hF7 : F 7) (hcl : A.1 7 = 0) (hw1 : 1 ≤ w) (hw2 : w ≤ A.1 3) (hf3 : A.1 3 < 1000) : Met l y_Mo_cloning (Cond.code y_Mo_cloning b_Mo_cloning 6 none :: fm_T0) ({ frames := 2, cells := 0, slots := 0, locals := 60 }) (fm_Pc fm_lay fm_nf fm_fk fm_cl b x D dA (fm_tys dA) (fm_EX b x) false [.ref 586, .int (nI gi), .int (nI he), .int (nI w)] n M) (fm_Qc fm_lay fm_nf fm_fk fm_cl b x D dA (fun r n' M' => r = none ∧ n' = n ∧ ∃ M1, mv_R (gi + 4) M M1 ∧ fr_W gi (m_arrive M1 (gi + 4) (nI 0) (-1)) M' ∧ hr_G M' gi F (va_up (va_up A.1 3 (A.1 3 - w)) 7 1, A.2.1 ++ [.inl 0], A.2.2) g ∧ hr_G M' (gi + 4) F (ag_kid A w) g ∧ M'.1 611 (gi + 4) = nI 0)) 0 0 (fm_A b) := by
  refine fm_enter (by decide) (Nat.le_of_ble_eq_true rfl) ?_
  intro p e s m args below meth c9 hc hr hnm hex htg
  have hcl0 : M.1 611 gi = nI 0 := (h.1 7 (by decide) (by decide) hF7).trans (congrArg nI hcl)
  have hfu : M.1 607 gi = nI (A.1 3) := h.1 3 (by decide) (by decide) hF3
  have hg8 : gi < 98 := by omega
  refine fm_iload_n hc d_Mo_cloning_0 rfl rfl ?_
  refine fm_if_ge (tgt := 18) hc d_Mo_cloning_1 rfl (fun _ => ?_) (fun g => absurd (nI_nonneg (by omega)) g)
  refine fm_iload_n hc d_Mo_cloning_18 rfl rfl ?_
  refine fm_bipush (v := nI 8) hc d_Mo_cloning_19 rfl ?_
  refine fm_irem hc d_Mo_cloning_21 (by decide) ?_
  refine fm_top (congrArg Value.int (irem8 gi hg8)) ?_
  refine fm_iconst (v := nI 4) hc d_Mo_cloning_22 rfl ?_
  refine fm_icmp_ge (tgt := 30) hc d_Mo_cloning_23 rfl (fun g => absurd g (hnle (a := 4) (c := gi % 8) hp (by omega))) (fun _ => ?_)
  refine fm_iconst (v := nI 1) hc d_Mo_cloning_26 rfl ?_
  refine fm_goto (tgt := 31) hc d_Mo_cloning_27 rfl ?_
  refine fm_istore (lv' := [(4, .int (nI 1)), (0, .ref 586), (1, .int (nI gi)), (2, .int (nI he)), (3, .int (nI w))]) hc d_Mo_cloning_31 (by decide) rfl ?_
  refine fm_iload hc d_Mo_cloning_33 rfl ?_
  refine fm_if_eq (tgt := 62) hc d_Mo_cloning_35 rfl (fun g => absurd g (by decide)) (fun _ => ?_)
  refine fm_aload_n hc d_Mo_cloning_38 rfl rfl ?_
  refine fm_getR (k := 26) (q := 611) hc K_Mo d_Mo_cloning_39 q_911 rfl (by decide) (by omega) (by decide) (by decide) (by decide) rfl (rp_cloned hR) ?_
  refine fm_iload_n hc d_Mo_cloning_42 rfl rfl ?_
  refine fm_zald (j := gi) (len := 98) hc 1 d_Mo_cloning_43 (by decide) (by omega) (by decide) rfl (by omega) (by decide) ?_
  refine fm_top (congrArg Value.int hcl0) ?_
  refine fm_if_ne (tgt := 62) hc d_Mo_cloning_44 rfl (fun g => absurd (by decide) g) (fun _ => ?_)
  refine fm_iload_n hc d_Mo_cloning_47 rfl rfl ?_
  refine fm_iconst (v := nI 1) hc d_Mo_cloning_48 rfl ?_
  refine fm_icmp_lt (tgt := 62) hc d_Mo_cloning_49 rfl (fun g => absurd g (Int32.not_lt.mpr (nI_le hw1 (by omega)))) (fun _ => ?_)
  refine fm_iload_n hc d_Mo_cloning_52 rfl rfl ?_
  refine fm_aload_n hc d_Mo_cloning_53 rfl rfl ?_
  refine fm_getR (k := 22) (q := 607) hc K_Mo d_Mo_cloning_54 q_907 rfl (by decide) (by omega) (by decide) (by decide) (by decide) rfl (rp_fuel hR) ?_
  refine fm_iload_n hc d_Mo_cloning_57 rfl rfl ?_
  refine fm_iald (j := gi) (len := 98) hc 0 d_Mo_cloning_58 (by decide) (by omega) (by decide) rfl (by omega) (by decide) ?_
  refine fm_top (congrArg Value.int hfu) ?_
  refine fm_icmp_le (tgt := 71) hc d_Mo_cloning_59 rfl (fun _ => ?_) (fun g => absurd (nI_le hw2 (by omega)) g)
  refine fm_iload_n hc d_Mo_cloning_71 rfl rfl ?_
  refine fm_if_ge (tgt := 80) hc d_Mo_cloning_72 rfl (fun _ => ?_) (fun g => absurd (nI_nonneg (by omega)) g)
  refine fm_iload_n hc d_Mo_cloning_80 rfl rfl ?_
  refine fm_iconst (v := nI 4) hc d_Mo_cloning_81 rfl ?_
  refine fm_iadd hc d_Mo_cloning_82 ?_
  refine fm_top (congrArg Value.int (nI_add gi 4)) ?_
  refine fm_istore (lv' := [(5, .int (nI (gi + 4))), (4, .int (nI 1)), (0, .ref 586), (1, .int (nI gi)), (2, .int (nI he)), (3, .int (nI w))]) hc d_Mo_cloning_83 (by decide) rfl ?_
  refine fm_aload_n hc d_Mo_cloning_85 rfl rfl ?_
  refine fm_iload_n hc d_Mo_cloning_86 rfl rfl ?_
  refine fm_iload hc d_Mo_cloning_87 rfl ?_
  refine fm_iload_n hc d_Mo_cloning_89 rfl rfl ?_
  refine fm_callV (av := [.int (nI gi), .int (nI (gi + 4)), .int (nI w)]) (rest := []) (ob := 586) (ci := 11) (r0 := ("AgentNetModel", F_Mo, 51)) (y := y_Mo_bear) (bytes := b_Mo_bear) hc fm_T0_good (fm_EX_st b x) hex q_1146 q_13 q_1143 q_1145 qs_Mo_bear pd_Mo_bear (by decide) (by omega) (by decide) (by decide) rfl rfl (rc_bear (F := F) (A := A) (g := g) hn hR hg8 (by omega) (by omega) (Or.inl hcl0) h ok hd6) ⟨rfl, rfl, Nat.le_of_ble_eq_true rfl, Nat.le_of_ble_eq_true rfl⟩ ⟨Nat.le_of_ble_eq_true rfl, Nat.le_of_ble_eq_true rfl⟩ d_Mo_cloning_90 (Nat.le_of_ble_eq_true rfl) (fun r n2 M2 hp => ?_)
  obtain ⟨rfl, hq1, k1, k2, k3⟩ := hp
  replace hq1 := hq1.symm
  subst hq1
  revert k1 k2 k3
  generalize M2 = Ma
  intro k1 k2 k3
  have hRa := mvR_RP k2 hR
  have hpa := hrG_mvR ok (by omega) h k2
  refine fm_cnt (z' := (0, 0)) rfl (fm_st (st' := []) rfl ?_)
  refine fm_iload_n hc d_Mo_cloning_93 rfl rfl ?_
  refine fm_if_ge (tgt := 105) hc d_Mo_cloning_94 rfl (fun _ => ?_) (fun g => absurd (nI_nonneg (by omega)) g)
  refine fm_aload_n hc d_Mo_cloning_105 rfl rfl ?_
  refine fm_iload hc d_Mo_cloning_106 rfl ?_
  refine fm_iconst (v := nI 0) hc d_Mo_cloning_108 rfl ?_
  refine fm_iconst (v := (-1)) hc d_Mo_cloning_109 rfl ?_
  refine fm_callV (av := [.int (nI (gi + 4)), .int (nI 0), .int ((-1))]) (rest := []) (ob := 586) (ci := 11) (r0 := ("AgentNetModel", F_Mo, 51)) (y := y_Mo_arriveAt) (bytes := b_Mo_arriveAt) hc fm_T0_good (fm_EX_st b x) hex q_1070 q_13 q_1067 q_1069 qs_Mo_arriveAt pd_Mo_arriveAt (by decide) (by omega) (by decide) (by decide) rfl rfl (c_arriveAt hn hRa (by omega)) ⟨rfl, rfl, Nat.le_of_ble_eq_true rfl, Nat.le_of_ble_eq_true rfl⟩ ⟨Nat.le_of_ble_eq_true rfl, Nat.le_of_ble_eq_true rfl⟩ d_Mo_cloning_110 (Nat.le_of_ble_eq_true rfl) (fun r n2 M2 hp => ?_)
  obtain ⟨rfl, hq1, hq2⟩ := hp
  replace hq1 := hq1.symm
  replace hq2 := hq2.symm
  subst hq1 hq2
  refine fm_cnt (z' := (0, 0)) rfl (fm_st (st' := []) rfl ?_)
  refine fm_aload_n hc d_Mo_cloning_113 rfl rfl ?_
  refine fm_getR (k := 22) (q := 607) hc K_Mo d_Mo_cloning_114 q_907 rfl (by decide) (by omega) (by decide) (by decide) (by decide) rfl (rp_fuel hRa) ?_
  refine fm_iload_n hc d_Mo_cloning_117 rfl rfl ?_
  refine fm_aload_n hc d_Mo_cloning_118 rfl rfl ?_
  refine fm_getR (k := 22) (q := 607) hc K_Mo d_Mo_cloning_119 q_907 rfl (by decide) (by omega) (by decide) (by decide) (by decide) rfl (rp_fuel hRa) ?_
  refine fm_iload_n hc d_Mo_cloning_122 rfl rfl ?_
  refine fm_iald (j := gi) (len := 98) hc 0 d_Mo_cloning_123 (by decide) (by omega) (by decide) rfl (by omega) (by decide) ?_
  refine fm_top (congrArg Value.int ((p1_other (by decide)).trans ((p1_other (by decide)).trans ((p1_other (by decide)).trans ((hpa.1 3 (by decide) (by decide) hF3)))))) ?_
  refine fm_iload_n hc d_Mo_cloning_124 rfl rfl ?_
  refine fm_isub hc d_Mo_cloning_125 ?_
  refine fm_top (congrArg Value.int (pk_sub (a := A.1 3) (b := w) (by omega))) ?_
  refine fm_iast (j := gi) (len := 98) (v := nI ((A.1 3) - w)) hc 0 d_Mo_cloning_126 (by decide) (by omega) (by decide) rfl (by omega) (by decide) ?_
  refine fm_aload_n hc d_Mo_cloning_127 rfl rfl ?_
  refine fm_getR (k := 26) (q := 611) hc K_Mo d_Mo_cloning_128 q_911 rfl (by decide) (by omega) (by decide) (by decide) (by decide) rfl (rp_cloned hRa) ?_
  refine fm_iload_n hc d_Mo_cloning_131 rfl rfl ?_
  refine fm_iconst (v := nI 1) hc d_Mo_cloning_132 rfl ?_
  refine fm_zast (j := gi) (len := 98) (v := nI 1) hc 1 d_Mo_cloning_133 (by decide) (by omega) (by decide) rfl (by omega) (by decide) ?_
  refine fm_mem (M' := fm_put1 (fm_put1 (m_arrive Ma (gi + 4) (nI 0) (-1)) 607 gi (nI (A.1 3 - w))) 611 gi (nI 1)) rfl rfl ?_
  refine fm_aload_n hc d_Mo_cloning_134 rfl rfl ?_
  refine fm_iload_n hc d_Mo_cloning_135 rfl rfl ?_
  refine fm_lconst (v := 0) hc d_Mo_cloning_136 rfl ?_
  refine fm_callV (av := [.int (nI gi), .long 0]) (rest := []) (ob := 586) (ci := 11) (r0 := ("AgentNetModel", F_Mo, 51)) (y := y_Mo_push) (bytes := b_Mo_push) hc fm_T0_good (fm_EX_st b x) hex q_1121 q_13 q_1118 q_1120 qs_Mo_push pd_Mo_push (by decide) (by omega) (by decide) (by decide) rfl rfl (rc_push (M := fm_put1 (fm_put1 (m_arrive Ma (gi + 4) (nI 0) (-1)) 607 gi (nI (A.1 3 - w))) 611 gi (nI 1)) (d := A.2.1.length) hn hRa hg8 ((p1_other (by decide)).trans ((p1_other (by decide)).trans ((p1_other (by decide)).trans ((p1_other (by decide)).trans ((p1_other (by decide)).trans (hpa.2.1)))))) hd6) ⟨rfl, rfl, Nat.le_of_ble_eq_true rfl, Nat.le_of_ble_eq_true rfl⟩ ⟨Nat.le_of_ble_eq_true rfl, Nat.le_of_ble_eq_true rfl⟩ d_Mo_cloning_137 (Nat.le_of_ble_eq_true rfl) (fun r n2 M2 hp => ?_)
  obtain ⟨rfl, hq1, hq2⟩ := hp
  replace hq1 := hq1.symm
  replace hq2 := hq2.symm
  subst hq1 hq2
  refine fm_cnt (z' := (0, 0)) rfl (fm_st (st' := []) rfl ?_)
  exact fm_vret hc hr d_Mo_cloning_140 (Nat.le_refl _) (Nat.le_refl _) ⟨rfl, rfl, Ma, k2, frW_p1 (Or.inl ⟨by decide, by decide, rfl⟩) (frW_p2 (Or.inl ⟨rfl, by omega, by omega⟩) (frW_p1 (Or.inl ⟨by decide, by decide, rfl⟩) (frW_p1 (Or.inl ⟨by decide, by decide, rfl⟩) (frW_rf gi _)))), hrG_push rfl rfl (hrG_num (k := 7) (v := 1) (by decide) (by decide) (hrG_num (k := 3) (v := A.1 3 - w) (by decide) (by decide) (hrG_o1 (Or.inl (by decide)) (hrG_o1 (Or.inl (by decide)) (hrG_o1 (Or.inl (by decide)) (hpa)))))), hrG_o1 (Or.inr (by omega)) (hrG_o2 (ok_kid ok hd6) (by omega) (by decide) (by decide) (hrG_o1 (Or.inr (by omega)) (hrG_o1 (Or.inr (by omega)) (hrG_o1 (Or.inl (by decide)) (hrG_o1 (Or.inl (by decide)) (hrG_o1 (Or.inl (by decide)) (k1))))))), (p1_other (by decide)).trans (show (fm_put1 (fm_put1 (m_arrive Ma (gi + 4) (nI 0) (-1)) 607 gi (nI (A.1 3 - w))) 611 gi (nI 1)).1 611 (gi + 4) = nI 0 from (p1_at (by omega)).trans ((p1_other (by decide)).trans ((p1_other (by decide)).trans ((p1_other (by decide)).trans ((p1_other (by decide)).trans (k3))))))⟩
theorem rc_clone_f {l : Launch} {b : Nat} {x : Nat → Nat} {D : va_G} {dA : Nat → ClassId} {gi w n : Nat} {F : Nat → Prop} {A : ag_T} {g : Nat → Nat} {M : fm_M} (hn : 629 ≤ n) (hR : fm_RP M) (hp : gi = 96) (h : hr_G M gi F A g) (ok : ag_ok A) (hd6 : A.2.1.length < 6) (hF3 : F 3) (hF7 : F 7) (hcl : A.1 7 = 0) (hw1 : 1 ≤ w) (hw2 : w ≤ A.1 3) (hf3 : A.1 3 < 1000) : Met l y_Mo_cloning (Cond.code y_Mo_cloning b_Mo_cloning 6 none :: fm_T0) ({ frames := 2, cells := 0, slots := 0, locals := 60 }) (fm_Pc fm_lay fm_nf fm_fk fm_cl b x D dA (fm_tys dA) (fm_EX b x) false [.ref 586, .int (nI gi), .int (-1), .int (nI w)] n M) (fm_Qc fm_lay fm_nf fm_fk fm_cl b x D dA (fun r n' M' => r = none ∧ n' = n ∧ ∃ M1, mv_R 97 M M1 ∧ fr_W gi (fm_put1 M1 586 47 (nI 1)) M' ∧ hr_G M' gi F (va_up (va_up A.1 3 (A.1 3 - w)) 7 1, A.2.1 ++ [.inl 0], A.2.2) g ∧ hr_G M' 97 F (ag_kid A w) g ∧ M'.1 611 97 = nI 0)) 0 0 (fm_A b) := by
  refine fm_enter (by decide) (Nat.le_of_ble_eq_true rfl) ?_
  intro p e s m args below meth c9 hc hr hnm hex htg
  have hcl0 : M.1 611 gi = nI 0 := (h.1 7 (by decide) (by decide) hF7).trans (congrArg nI hcl)
  have hfu : M.1 607 gi = nI (A.1 3) := h.1 3 (by decide) (by decide) hF3
  have hg8 : gi < 98 := by omega
  refine fm_iload_n hc d_Mo_cloning_0 rfl rfl ?_
  refine fm_if_ge (tgt := 18) hc d_Mo_cloning_1 rfl (fun g => absurd g (by decide)) (fun _ => ?_)
  refine fm_iload_n hc d_Mo_cloning_4 rfl rfl ?_
  refine fm_bipush (v := nI 96) hc d_Mo_cloning_5 rfl ?_
  refine fm_icmp_ne (tgt := 14) hc d_Mo_cloning_7 rfl (fun g => absurd (congrArg nI hp) g) (fun _ => ?_)
  refine fm_iconst (v := nI 1) hc d_Mo_cloning_10 rfl ?_
  refine fm_goto (tgt := 31) hc d_Mo_cloning_11 rfl ?_
  refine fm_istore (lv' := [(4, .int (nI 1)), (0, .ref 586), (1, .int (nI gi)), (2, .int (-1)), (3, .int (nI w))]) hc d_Mo_cloning_31 (by decide) rfl ?_
  refine fm_iload hc d_Mo_cloning_33 rfl ?_
  refine fm_if_eq (tgt := 62) hc d_Mo_cloning_35 rfl (fun g => absurd g (by decide)) (fun _ => ?_)
  refine fm_aload_n hc d_Mo_cloning_38 rfl rfl ?_
  refine fm_getR (k := 26) (q := 611) hc K_Mo d_Mo_cloning_39 q_911 rfl (by decide) (by omega) (by decide) (by decide) (by decide) rfl (rp_cloned hR) ?_
  refine fm_iload_n hc d_Mo_cloning_42 rfl rfl ?_
  refine fm_zald (j := gi) (len := 98) hc 1 d_Mo_cloning_43 (by decide) (by omega) (by decide) rfl (by omega) (by decide) ?_
  refine fm_top (congrArg Value.int hcl0) ?_
  refine fm_if_ne (tgt := 62) hc d_Mo_cloning_44 rfl (fun g => absurd (by decide) g) (fun _ => ?_)
  refine fm_iload_n hc d_Mo_cloning_47 rfl rfl ?_
  refine fm_iconst (v := nI 1) hc d_Mo_cloning_48 rfl ?_
  refine fm_icmp_lt (tgt := 62) hc d_Mo_cloning_49 rfl (fun g => absurd g (Int32.not_lt.mpr (nI_le hw1 (by omega)))) (fun _ => ?_)
  refine fm_iload_n hc d_Mo_cloning_52 rfl rfl ?_
  refine fm_aload_n hc d_Mo_cloning_53 rfl rfl ?_
  refine fm_getR (k := 22) (q := 607) hc K_Mo d_Mo_cloning_54 q_907 rfl (by decide) (by omega) (by decide) (by decide) (by decide) rfl (rp_fuel hR) ?_
  refine fm_iload_n hc d_Mo_cloning_57 rfl rfl ?_
  refine fm_iald (j := gi) (len := 98) hc 0 d_Mo_cloning_58 (by decide) (by omega) (by decide) rfl (by omega) (by decide) ?_
  refine fm_top (congrArg Value.int hfu) ?_
  refine fm_icmp_le (tgt := 71) hc d_Mo_cloning_59 rfl (fun _ => ?_) (fun g => absurd (nI_le hw2 (by omega)) g)
  refine fm_iload_n hc d_Mo_cloning_71 rfl rfl ?_
  refine fm_if_ge (tgt := 80) hc d_Mo_cloning_72 rfl (fun g => absurd g (by decide)) (fun _ => ?_)
  refine fm_bipush (v := nI 97) hc d_Mo_cloning_75 rfl ?_
  refine fm_goto (tgt := 83) hc d_Mo_cloning_77 rfl ?_
  refine fm_istore (lv' := [(5, .int (nI 97)), (4, .int (nI 1)), (0, .ref 586), (1, .int (nI gi)), (2, .int (-1)), (3, .int (nI w))]) hc d_Mo_cloning_83 (by decide) rfl ?_
  refine fm_aload_n hc d_Mo_cloning_85 rfl rfl ?_
  refine fm_iload_n hc d_Mo_cloning_86 rfl rfl ?_
  refine fm_iload hc d_Mo_cloning_87 rfl ?_
  refine fm_iload_n hc d_Mo_cloning_89 rfl rfl ?_
  refine fm_callV (av := [.int (nI gi), .int (nI 97), .int (nI w)]) (rest := []) (ob := 586) (ci := 11) (r0 := ("AgentNetModel", F_Mo, 51)) (y := y_Mo_bear) (bytes := b_Mo_bear) hc fm_T0_good (fm_EX_st b x) hex q_1146 q_13 q_1143 q_1145 qs_Mo_bear pd_Mo_bear (by decide) (by omega) (by decide) (by decide) rfl rfl (rc_bear (F := F) (A := A) (g := g) hn hR hg8 (by omega) (by omega) (Or.inl hcl0) h ok hd6) ⟨rfl, rfl, Nat.le_of_ble_eq_true rfl, Nat.le_of_ble_eq_true rfl⟩ ⟨Nat.le_of_ble_eq_true rfl, Nat.le_of_ble_eq_true rfl⟩ d_Mo_cloning_90 (Nat.le_of_ble_eq_true rfl) (fun r n2 M2 hp => ?_)
  obtain ⟨rfl, hq1, k1, k2, k3⟩ := hp
  replace hq1 := hq1.symm
  subst hq1
  revert k1 k2 k3
  generalize M2 = Ma
  intro k1 k2 k3
  have hRa := mvR_RP k2 hR
  have hpa := hrG_mvR ok (by omega) h k2
  refine fm_cnt (z' := (0, 0)) rfl (fm_st (st' := []) rfl ?_)
  refine fm_iload_n hc d_Mo_cloning_93 rfl rfl ?_
  refine fm_if_ge (tgt := 105) hc d_Mo_cloning_94 rfl (fun g => absurd g (by decide)) (fun _ => ?_)
  refine fm_aload_n hc d_Mo_cloning_97 rfl rfl ?_
  refine fm_iconst (v := nI 1) hc d_Mo_cloning_98 rfl ?_
  refine fm_putI (k := 47) (v := nI 1) hc K_Mo d_Mo_cloning_99 q_932 rfl (by decide) (by omega) (by decide) (by decide) (by decide) rfl rfl rfl rfl ?_
  refine fm_goto (tgt := 113) hc d_Mo_cloning_102 rfl ?_
  refine fm_aload_n hc d_Mo_cloning_113 rfl rfl ?_
  refine fm_getR (k := 22) (q := 607) hc K_Mo d_Mo_cloning_114 q_907 rfl (by decide) (by omega) (by decide) (by decide) (by decide) rfl (rp_fuel hRa) ?_
  refine fm_iload_n hc d_Mo_cloning_117 rfl rfl ?_
  refine fm_aload_n hc d_Mo_cloning_118 rfl rfl ?_
  refine fm_getR (k := 22) (q := 607) hc K_Mo d_Mo_cloning_119 q_907 rfl (by decide) (by omega) (by decide) (by decide) (by decide) rfl (rp_fuel hRa) ?_
  refine fm_iload_n hc d_Mo_cloning_122 rfl rfl ?_
  refine fm_iald (j := gi) (len := 98) hc 0 d_Mo_cloning_123 (by decide) (by omega) (by decide) rfl (by omega) (by decide) ?_
  refine fm_top (congrArg Value.int ((p1_other (by decide)).trans ((hpa.1 3 (by decide) (by decide) hF3)))) ?_
  refine fm_iload_n hc d_Mo_cloning_124 rfl rfl ?_
  refine fm_isub hc d_Mo_cloning_125 ?_
  refine fm_top (congrArg Value.int (pk_sub (a := A.1 3) (b := w) (by omega))) ?_
  refine fm_iast (j := gi) (len := 98) (v := nI ((A.1 3) - w)) hc 0 d_Mo_cloning_126 (by decide) (by omega) (by decide) rfl (by omega) (by decide) ?_
  refine fm_aload_n hc d_Mo_cloning_127 rfl rfl ?_
  refine fm_getR (k := 26) (q := 611) hc K_Mo d_Mo_cloning_128 q_911 rfl (by decide) (by omega) (by decide) (by decide) (by decide) rfl (rp_cloned hRa) ?_
  refine fm_iload_n hc d_Mo_cloning_131 rfl rfl ?_
  refine fm_iconst (v := nI 1) hc d_Mo_cloning_132 rfl ?_
  refine fm_zast (j := gi) (len := 98) (v := nI 1) hc 1 d_Mo_cloning_133 (by decide) (by omega) (by decide) rfl (by omega) (by decide) ?_
  refine fm_mem (M' := fm_put1 (fm_put1 (fm_put1 Ma 586 47 (nI 1)) 607 gi (nI (A.1 3 - w))) 611 gi (nI 1)) rfl rfl ?_
  refine fm_aload_n hc d_Mo_cloning_134 rfl rfl ?_
  refine fm_iload_n hc d_Mo_cloning_135 rfl rfl ?_
  refine fm_lconst (v := 0) hc d_Mo_cloning_136 rfl ?_
  refine fm_callV (av := [.int (nI gi), .long 0]) (rest := []) (ob := 586) (ci := 11) (r0 := ("AgentNetModel", F_Mo, 51)) (y := y_Mo_push) (bytes := b_Mo_push) hc fm_T0_good (fm_EX_st b x) hex q_1121 q_13 q_1118 q_1120 qs_Mo_push pd_Mo_push (by decide) (by omega) (by decide) (by decide) rfl rfl (rc_push (M := fm_put1 (fm_put1 (fm_put1 Ma 586 47 (nI 1)) 607 gi (nI (A.1 3 - w))) 611 gi (nI 1)) (d := A.2.1.length) hn hRa hg8 ((p1_other (by decide)).trans ((p1_other (by decide)).trans ((p1_other (by decide)).trans (hpa.2.1)))) hd6) ⟨rfl, rfl, Nat.le_of_ble_eq_true rfl, Nat.le_of_ble_eq_true rfl⟩ ⟨Nat.le_of_ble_eq_true rfl, Nat.le_of_ble_eq_true rfl⟩ d_Mo_cloning_137 (Nat.le_of_ble_eq_true rfl) (fun r n2 M2 hp => ?_)
  obtain ⟨rfl, hq1, hq2⟩ := hp
  replace hq1 := hq1.symm
  replace hq2 := hq2.symm
  subst hq1 hq2
  refine fm_cnt (z' := (0, 0)) rfl (fm_st (st' := []) rfl ?_)
  exact fm_vret hc hr d_Mo_cloning_140 (Nat.le_refl _) (Nat.le_refl _) ⟨rfl, rfl, Ma, k2, frW_p1 (Or.inl ⟨by decide, by decide, rfl⟩) (frW_p2 (Or.inl ⟨rfl, by omega, by omega⟩) (frW_p1 (Or.inl ⟨by decide, by decide, rfl⟩) (frW_p1 (Or.inl ⟨by decide, by decide, rfl⟩) (frW_rf gi _)))), hrG_push rfl rfl (hrG_num (k := 7) (v := 1) (by decide) (by decide) (hrG_num (k := 3) (v := A.1 3 - w) (by decide) (by decide) (hrG_o1 (Or.inl (by decide)) (hpa)))), hrG_o1 (Or.inr (by omega)) (hrG_o2 (ok_kid ok hd6) (by omega) (by decide) (by decide) (hrG_o1 (Or.inr (by omega)) (hrG_o1 (Or.inr (by omega)) (hrG_o1 (Or.inl (by decide)) (k1))))), (p1_other (by decide)).trans (show (fm_put1 (fm_put1 (fm_put1 Ma 586 47 (nI 1)) 607 gi (nI (A.1 3 - w))) 611 gi (nI 1)).1 611 97 = nI 0 from (p1_at (by omega)).trans ((p1_other (by decide)).trans ((p1_other (by decide)).trans (k3))))⟩
