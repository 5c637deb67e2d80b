/-! Script.at; an instruction that fails at once; the free run of an empty program -/
theorem c_at_lo {l : Launch} {b : Nat} {x : Nat → Nat} {D : va_G} {dA : Nat → ClassId} {o : Nat} {v : Int32} {n : Nat} {M : fm_M} (h8 : 8 ≤ o) (ho : o < n) (hl : (fm_lay o).1 = 1) (hv : v < 0) : Met l y_Sc_at (Cond.code y_Sc_at b_Sc_at 2 (some .int) :: fm_T0) ({ frames := 0, cells := 0, slots := 0, locals := 0 }) (fm_Pc fm_lay fm_nf fm_fk fm_cl b x D dA (fm_tys dA) (fm_EX b x) false [.ref o, .int v] n M) (fm_Qc fm_lay fm_nf fm_fk fm_cl b x D dA (fun r n' M' => r = some (.int (-1)) ∧ n' = n ∧ M' = M)) 0 0 (fm_A b) := by
  refine fm_enter (by decide) (Nat.le_of_ble_eq_true rfl) ?_
  intro p e s m args below meth c hc hr hnm hex htg
  refine fm_iload_n hc d_Sc_at_0 rfl rfl ?_
  refine fm_if_lt (tgt := 21) hc d_Sc_at_1 rfl (fun _ => ?_) (fun g => absurd hv g)
  refine fm_iconst (v := (-1)) hc d_Sc_at_21 rfl ?_
  exact fm_iret hc hr d_Sc_at_22 (Nat.le_refl _) (Nat.le_refl _) ⟨rfl, rfl, rfl⟩
theorem c_at_hi {l : Launch} {b : Nat} {x : Nat → Nat} {D : va_G} {dA : Nat → ClassId} {o : Nat} {v : Int32} {n : Nat} {M : fm_M} (h8 : 8 ≤ o) (ho : o < n) (hl : (fm_lay o).1 = 1) (hv : ¬ v < 0) (hv2 : M.1 o 1 ≤ v) : Met l y_Sc_at (Cond.code y_Sc_at b_Sc_at 2 (some .int) :: fm_T0) ({ frames := 0, cells := 0, slots := 0, locals := 0 }) (fm_Pc fm_lay fm_nf fm_fk fm_cl b x D dA (fm_tys dA) (fm_EX b x) false [.ref o, .int v] n M) (fm_Qc fm_lay fm_nf fm_fk fm_cl b x D dA (fun r n' M' => r = some (.int (-1)) ∧ n' = n ∧ M' = M)) 0 0 (fm_A b) := by
  refine fm_enter (by decide) (Nat.le_of_ble_eq_true rfl) ?_
  intro p e s m args below meth c hc hr hnm hex htg
  refine fm_iload_n hc d_Sc_at_0 rfl rfl ?_
  refine fm_if_lt (tgt := 21) hc d_Sc_at_1 rfl (fun g => absurd g hv) (fun _ => ?_)
  refine fm_iload_n hc d_Sc_at_4 rfl rfl ?_
  refine fm_aload_n hc d_Sc_at_5 rfl rfl ?_
  refine fm_getI (k := 1) hc K_Sc d_Sc_at_6 q_280 rfl h8 ho hl (by decide) (by decide) rfl ?_
  refine fm_icmp_ge (tgt := 21) hc d_Sc_at_9 rfl (fun _ => ?_) (fun g => absurd hv2 g)
  refine fm_iconst (v := (-1)) hc d_Sc_at_21 rfl ?_
  exact fm_iret hc hr d_Sc_at_22 (Nat.le_refl _) (Nat.le_refl _) ⟨rfl, rfl, rfl⟩
theorem c_at_ok {l : Launch} {b : Nat} {x : Nat → Nat} {D : va_G} {dA : Nat → ClassId} {o q k : Nat} {n : Nat} {M : fm_M} (h8 : 8 ≤ o) (ho : o < n) (hl : (fm_lay o).1 = 1) (q8 : 8 ≤ q) (qn : q < n) (ql : fm_lay q = (100, 48)) (hq : M.2.2 o 0 = some q) (hk : k < 48) (hv2 : ¬ M.1 o 1 ≤ nI k) : Met l y_Sc_at (Cond.code y_Sc_at b_Sc_at 2 (some .int) :: fm_T0) ({ frames := 0, cells := 0, slots := 0, locals := 0 }) (fm_Pc fm_lay fm_nf fm_fk fm_cl b x D dA (fm_tys dA) (fm_EX b x) false [.ref o, .int (nI k)] n M) (fm_Qc fm_lay fm_nf fm_fk fm_cl b x D dA (fun r n' M' => r = some (.int (M.1 q k)) ∧ n' = n ∧ M' = M)) 0 0 (fm_A b) := by
  refine fm_enter (by decide) (Nat.le_of_ble_eq_true rfl) ?_
  intro p e s m args below meth c hc hr hnm hex htg
  refine fm_iload_n hc d_Sc_at_0 rfl rfl ?_
  refine fm_if_lt (tgt := 21) hc d_Sc_at_1 rfl (fun g => absurd g (nI_pos (by omega))) (fun _ => ?_)
  refine fm_iload_n hc d_Sc_at_4 rfl rfl ?_
  refine fm_aload_n hc d_Sc_at_5 rfl rfl ?_
  refine fm_getI (k := 1) hc K_Sc d_Sc_at_6 q_280 rfl h8 ho hl (by decide) (by decide) rfl ?_
  refine fm_icmp_ge (tgt := 21) hc d_Sc_at_9 rfl (fun g => absurd g hv2) (fun _ => ?_)
  refine fm_aload_n hc d_Sc_at_12 rfl rfl ?_
  refine fm_getR (k := 0) (q := q) hc K_Sc d_Sc_at_13 q_279 rfl h8 ho hl (by decide) (by decide) rfl hq ?_
  refine fm_iload_n hc d_Sc_at_16 rfl rfl ?_
  refine fm_iald (j := k) (len := 48) hc 0 d_Sc_at_17 q8 qn ql rfl (by omega) (by decide) ?_
  refine fm_goto (tgt := 22) hc d_Sc_at_18 rfl ?_
  exact fm_iret hc hr d_Sc_at_22 (Nat.le_refl _) (Nat.le_refl _) ⟨rfl, rfl, rfl⟩
theorem c_read_no {l : Launch} {b : Nat} {x : Nat → Nat} {D : va_G} {dA : Nat → ClassId} {tr sc : Nat} {t : Int32} {n : Nat} {M : fm_M} (hn : 586 ≤ n) (t8 : 8 ≤ tr) (tn : tr < n) (tl : (fm_lay tr).1 = 5) (s8 : 8 ≤ sc) (sn : sc < n) (sl : (fm_lay sc).1 = 1) (hat : Met l y_Sc_at (Cond.code y_Sc_at b_Sc_at 2 (some .int) :: fm_T0) ({ frames := 0, cells := 0, slots := 0, locals := 0 }) (fm_Pc fm_lay fm_nf fm_fk fm_cl b x D dA (fm_tys dA) (fm_EX b x) false [.ref sc, .int (M.1 tr 2)] n (M)) (fm_Qc fm_lay fm_nf fm_fk fm_cl b x D dA (fun r n' M' => r = some (.int t) ∧ n' = n ∧ M' = M)) 0 0 (fm_A b)) (ht : t < 0) : Met l y_Pr_read (Cond.code y_Pr_read b_Pr_read 3 (some .boolean) :: fm_T0) ({ frames := 1, cells := 0, slots := 0, locals := 25 }) (fm_Pc fm_lay fm_nf fm_fk fm_cl b x D dA (fm_tys dA) (fm_EX b x) false [.ref 60, .ref tr, .ref sc] n M) (fm_Qc fm_lay fm_nf fm_fk fm_cl b x D dA (fun r n' M' => r = some (.int (nI 0)) ∧ n' = n ∧ M' = fm_put1 M 60 1 t)) 0 0 (fm_A b) := by
  refine fm_enter (by decide) (Nat.le_of_ble_eq_true rfl) ?_
  intro p e s m args below meth c hc hr hnm hex htg
  refine fm_aload_n hc d_Pr_read_0 rfl rfl ?_
  refine fm_aload_n hc d_Pr_read_1 rfl rfl ?_
  refine fm_aload_n hc d_Pr_read_2 rfl rfl ?_
  refine fm_getI (k := 2) hc K_Tr d_Pr_read_3 q_181 rfl t8 tn tl (by decide) (by decide) rfl ?_
  refine fm_callV (av := [.int (M.1 tr 2)]) (rest := [.ref 60]) (ob := sc) (ci := 1) (r0 := ("AgentNet$Script", F_Sc, 2)) (y := y_Sc_at) (bytes := b_Sc_at) hc fm_T0_good (fm_EX_st b x) hex q_602 q_9 q_599 q_600 q_601 pd_Sc_at s8 sn sl (by decide) rfl rfl (hat) ⟨rfl, rfl, Nat.le_of_ble_eq_true rfl, Nat.le_of_ble_eq_true rfl⟩ ⟨Nat.le_of_ble_eq_true rfl, Nat.le_of_ble_eq_true rfl⟩ d_Pr_read_6 (Nat.le_of_ble_eq_true rfl) (fun r n2 M2 hp => ?_)
  obtain ⟨rfl, hq1, hq2⟩ := hp
  replace hq1 := hq1.symm
  replace hq2 := hq2.symm
  subst hq1 hq2
  refine fm_cnt (z' := (0, 0)) rfl (fm_st (st' := [.int t, .ref 60]) rfl ?_)
  refine fm_putI (k := 1) (v := t) hc K_Pr d_Pr_read_9 q_124 rfl (by decide) (by omega) (by decide) (by decide) (by decide) rfl rfl rfl rfl ?_
  refine fm_aload_n hc d_Pr_read_12 rfl rfl ?_
  refine fm_getI (k := 1) hc K_Pr d_Pr_read_13 q_124 rfl (by decide) (by omega) (by decide) (by decide) (by decide) rfl ?_
  refine fm_top (congrArg Value.int (p1_same _ _ _ _)) ?_
  refine fm_if_lt (tgt := 28) hc d_Pr_read_16 rfl (fun _ => ?_) (fun g => absurd ht g)
  refine fm_iconst (v := nI 0) hc d_Pr_read_28 rfl ?_
  exact fm_zret (ty := .boolean) hc hr (by first | rfl | decide) d_Pr_read_29 (Nat.le_refl _) (Nat.le_refl _) ⟨rfl, rfl, rfl⟩
theorem c_perform_no {l : Launch} {b : Nat} {x : Nat → Nat} {D : va_G} {dA : Nat → ClassId} {tr sc tb : Nat} {w : Int32} {M9 : fm_M} {n : Nat} {M : fm_M} (hn : 586 ≤ n) (t8 : 8 ≤ tr) (tn : tr < n) (tl : (fm_lay tr).1 = 5) (s8 : 8 ≤ sc) (sn : sc < n) (sl : (fm_lay sc).1 = 1) (hrd : Met l y_Pr_read (Cond.code y_Pr_read b_Pr_read 3 (some .boolean) :: fm_T0) ({ frames := 1, cells := 0, slots := 0, locals := 25 }) (fm_Pc fm_lay fm_nf fm_fk fm_cl b x D dA (fm_tys dA) (fm_EX b x) false [.ref 60, .ref tr, .ref sc] n (fm_put1 M tr 3 ((M.1 tr 3) - (nI 1)))) (fm_Qc fm_lay fm_nf fm_fk fm_cl b x D dA (fun r n' M' => r = some (.int (nI 0)) ∧ n' = n ∧ M' = M9)) 0 0 (fm_A b)) : Met l y_Pr_perform (Cond.code y_Pr_perform b_Pr_perform 6 (some .int) :: fm_T0) ({ frames := 2, cells := 0, slots := 0, locals := 50 }) (fm_Pc fm_lay fm_nf fm_fk fm_cl b x D dA (fm_tys dA) (fm_EX b x) false [.ref 60, .ref tr, .ref sc, .ref tb, .int w] n M) (fm_Qc fm_lay fm_nf fm_fk fm_cl b x D dA (fun r n' M' => r = some (.int (nI 5)) ∧ n' = n ∧ M' = M9)) 0 0 (fm_A b) := by
  refine fm_enter (by decide) (Nat.le_of_ble_eq_true rfl) ?_
  intro p e s m args below meth c hc hr hnm hex htg
  refine fm_aload_n hc d_Pr_perform_0 rfl rfl ?_
  refine fm_dup hc d_Pr_perform_1 rfl ?_
  refine fm_getI (k := 3) hc K_Tr d_Pr_perform_2 q_184 rfl t8 tn tl (by decide) (by decide) rfl ?_
  refine fm_iconst (v := nI 1) hc d_Pr_perform_5 rfl ?_
  refine fm_isub hc d_Pr_perform_6 ?_
  refine fm_putI (k := 3) (v := (M.1 tr 3) - (nI 1)) hc K_Tr d_Pr_perform_7 q_184 rfl t8 tn tl (by decide) (by decide) rfl rfl rfl rfl ?_
  refine fm_aload_n hc d_Pr_perform_10 rfl rfl ?_
  refine fm_aload_n hc d_Pr_perform_11 rfl rfl ?_
  refine fm_aload_n hc d_Pr_perform_12 rfl rfl ?_
  refine fm_callV (av := [.ref tr, .ref sc]) (rest := []) (ob := 60) (ci := 10) (r0 := ("AgentNet$Processor", F_Pr, 6)) (y := y_Pr_read) (bytes := b_Pr_read) hc fm_T0_good (fm_EX_st b x) hex q_598 q_4 q_595 q_597 qs_Pr_read pd_Pr_read (by decide) (by omega) (by decide) (by decide) rfl rfl (hrd) ⟨rfl, rfl, Nat.le_of_ble_eq_true rfl, Nat.le_of_ble_eq_true rfl⟩ ⟨Nat.le_of_ble_eq_true rfl, Nat.le_of_ble_eq_true rfl⟩ d_Pr_perform_13 (Nat.le_of_ble_eq_true rfl) (fun r n2 M2 hp => ?_)
  obtain ⟨rfl, hq1, hq2⟩ := hp
  replace hq1 := hq1.symm
  replace hq2 := hq2.symm
  subst hq1 hq2
  refine fm_cnt (z' := (0, 0)) rfl (fm_st (st' := [.int (nI 0)]) rfl ?_)
  refine fm_if_eq (tgt := 35) hc d_Pr_perform_16 rfl (fun _ => ?_) (fun g => absurd (by decide) g)
  refine fm_iconst (v := nI 5) hc d_Pr_perform_35 rfl ?_
  exact fm_iret hc hr d_Pr_perform_36 (Nat.le_refl _) (Nat.le_refl _) ⟨rfl, rfl, rfl⟩
theorem c_frun_no {l : Launch} {b : Nat} {x : Nat → Nat} {D : va_G} {dA : Nat → ClassId} {j a sc : Nat} {M9 : fm_M} {n : Nat} {M : fm_M} (hn : 586 ≤ n) (hA : fm_AP M) (hj : j < 4) (ha : a < 8) (s8 : 8 ≤ sc) (sn : sc < n) (sl : (fm_lay sc).1 = 1) (hf1 : M.2.2 69 1 = some 73) (hna : M.1 74 0 = nI a) (hfu : ¬ M.1 74 3 ≤ 0) (hpf : Met l y_Pr_perform (Cond.code y_Pr_perform b_Pr_perform 6 (some .int) :: fm_T0) ({ frames := 2, cells := 0, slots := 0, locals := 50 }) (fm_Pc fm_lay fm_nf fm_fk fm_cl b x D dA (fm_tys dA) (fm_EX b x) false [.ref 60, .ref 74, .ref sc, .ref (11 + j), .int (nI j)] n (fm_put1 M 73 a (vp_nar .boolean (nI 1)))) (fm_Qc fm_lay fm_nf fm_fk fm_cl b x D dA (fun r n' M' => r = some (.int (nI 5)) ∧ n' = n ∧ M' = M9)) 0 0 (fm_A b)) : Met l y_Fr_runAlone (Cond.code y_Fr_runAlone b_Fr_runAlone 9 none :: fm_T0) ({ frames := 3, cells := 0, slots := 0, locals := 80 }) (fm_Pc fm_lay fm_nf fm_fk fm_cl b x D dA (fm_tys dA) (fm_EX b x) false [.ref 69, .ref 74, .int (nI j), .ref 60, .ref sc, .ref 10] n M) (fm_Qc fm_lay fm_nf fm_fk fm_cl b x D dA (fun r n' M' => r = none ∧ n' = n ∧ M' = M9)) 0 0 (fm_A b) := by
  refine fm_enter (by decide) (Nat.le_of_ble_eq_true rfl) ?_
  intro p e s m args below meth c hc hr hnm hex htg
  refine fm_iload_n hc d_Fr_runAlone_0 rfl rfl ?_
  refine fm_istore (lv' := [(6, .int (nI j)), (0, .ref 69), (1, .ref 74), (2, .int (nI j)), (3, .ref 60), (4, .ref sc), (5, .ref 10)]) hc d_Fr_runAlone_1 (by decide) rfl ?_
  refine fm_aload_n hc d_Fr_runAlone_3 rfl rfl ?_
  refine fm_getR (k := 1) (q := 73) hc K_Fr d_Fr_runAlone_4 q_258 rfl (by decide) (by omega) (by decide) (by decide) (by decide) rfl hf1 ?_
  refine fm_aload_n hc d_Fr_runAlone_7 rfl rfl ?_
  refine fm_getI (k := 0) hc K_Tr d_Fr_runAlone_8 q_172 rfl (by decide) (by omega) (by decide) (by decide) (by decide) rfl ?_
  refine fm_top (congrArg Value.int hna) ?_
  refine fm_iconst (v := nI 1) hc d_Fr_runAlone_11 rfl ?_
  refine fm_zast (j := a) (len := 8) (v := nI 1) hc 1 d_Fr_runAlone_12 (by decide) (by omega) (by decide) rfl (by omega) (by decide) ?_
  refine fm_iconst (v := nI 0) hc d_Fr_runAlone_13 rfl ?_
  refine fm_istore (lv' := [(7, .int (nI 0)), (6, .int (nI j)), (0, .ref 69), (1, .ref 74), (2, .int (nI j)), (3, .ref 60), (4, .ref sc), (5, .ref 10)]) hc d_Fr_runAlone_14 (by decide) rfl ?_
  refine fm_iload hc d_Fr_runAlone_16 rfl ?_
  refine fm_sipush (v := nI 200) hc d_Fr_runAlone_18 rfl ?_
  refine fm_icmp_ge (tgt := 135) hc d_Fr_runAlone_21 rfl (fun g => absurd g (by decide)) (fun _ => ?_)
  refine fm_aload_n hc d_Fr_runAlone_24 rfl rfl ?_
  refine fm_getI (k := 3) hc K_Tr d_Fr_runAlone_25 q_185 rfl (by decide) (by omega) (by decide) (by decide) (by decide) rfl ?_
  refine fm_if_le (tgt := 135) hc d_Fr_runAlone_28 rfl (fun g => absurd g hfu) (fun _ => ?_)
  refine fm_aload_n hc d_Fr_runAlone_31 rfl rfl ?_
  refine fm_aload_n hc d_Fr_runAlone_32 rfl rfl ?_
  refine fm_aload hc d_Fr_runAlone_33 rfl ?_
  refine fm_aload hc d_Fr_runAlone_35 rfl ?_
  refine fm_iload hc d_Fr_runAlone_37 rfl ?_
  refine fm_aaldA (q := 11 + j) (j := j) (len := 4) hc 8 d_Fr_runAlone_39 (by decide) (by omega) (by decide) (by decide) rfl (by omega) (by decide) (ap_tab hA hj) ?_
  refine fm_iload hc d_Fr_runAlone_40 rfl ?_
  refine fm_callV (av := [.ref 74, .ref sc, .ref (11 + j), .int (nI j)]) (rest := []) (ob := 60) (ci := 10) (r0 := ("AgentNet$Processor", F_Pr, 6)) (y := y_Pr_perform) (bytes := b_Pr_perform) hc fm_T0_good (fm_EX_st b x) hex q_594 q_4 q_591 q_592 q_593 pd_Pr_perform (by decide) (by omega) (by decide) (by decide) rfl rfl (hpf) ⟨rfl, rfl, Nat.le_of_ble_eq_true rfl, Nat.le_of_ble_eq_true rfl⟩ ⟨Nat.le_of_ble_eq_true rfl, Nat.le_of_ble_eq_true rfl⟩ d_Fr_runAlone_42 (Nat.le_of_ble_eq_true rfl) (fun r n2 M2 hp => ?_)
  obtain ⟨rfl, hq1, hq2⟩ := hp
  replace hq1 := hq1.symm
  replace hq2 := hq2.symm
  subst hq1 hq2
  refine fm_cnt (z' := (0, 0)) rfl (fm_st (st' := [.int (nI 5)]) rfl ?_)
  refine fm_istore (lv' := [(8, .int (nI 5)), (7, .int (nI 0)), (6, .int (nI j)), (0, .ref 69), (1, .ref 74), (2, .int (nI j)), (3, .ref 60), (4, .ref sc), (5, .ref 10)]) hc d_Fr_runAlone_45 (by decide) rfl ?_
  refine fm_iload hc d_Fr_runAlone_47 rfl ?_
  refine fm_iconst (v := nI 4) hc d_Fr_runAlone_49 rfl ?_
  refine fm_icmp_eq (tgt := 59) hc d_Fr_runAlone_50 rfl (fun g => absurd g (by decide)) (fun _ => ?_)
  refine fm_iload hc d_Fr_runAlone_53 rfl ?_
  refine fm_iconst (v := nI 5) hc d_Fr_runAlone_55 rfl ?_
  refine fm_icmp_ne (tgt := 60) hc d_Fr_runAlone_56 rfl (fun g => absurd (by decide) g) (fun _ => ?_)
  exact fm_vret hc hr d_Fr_runAlone_59 (Nat.le_refl _) (Nat.le_refl _) ⟨rfl, rfl, rfl⟩
theorem trc_oth {M : fm_M} {o q dd pp r : Nat} (h : r ≠ o) (k : Nat) : (m_trc M o q dd pp).1 r k = M.1 r k := by simp [m_trc, fm_put1, fm_cpy2, va_up, h]
theorem trc_0 {M : fm_M} {o q dd pp : Nat} : (m_trc M o q dd pp).1 o 0 = M.1 q 0 := by simp [m_trc, fm_put1, fm_cpy2, va_up]
theorem trc_1 {M : fm_M} {o q dd pp : Nat} : (m_trc M o q dd pp).1 o 1 = M.1 q 1 := by simp [m_trc, fm_put1, fm_cpy2, va_up]
theorem trc_2 {M : fm_M} {o q dd pp : Nat} : (m_trc M o q dd pp).1 o 2 = M.1 q 2 := by simp [m_trc, fm_put1, fm_cpy2, va_up]
theorem trc_3 {M : fm_M} {o q dd pp : Nat} : (m_trc M o q dd pp).1 o 3 = M.1 q 3 := by simp [m_trc, fm_put1, fm_cpy2, va_up]
theorem trc_7 {M : fm_M} {o q dd pp : Nat} : (m_trc M o q dd pp).1 o 7 = M.1 q 7 := by simp [m_trc, fm_put1, fm_cpy2, va_up]
theorem trc_hi {M : fm_M} {o q dd pp : Nat} (h : o + 3 < 586) : fm_hi M (m_trc M o q dd pp) := by
  unfold m_trc
  exact hi_c2 (by omega) (hi_c2 (by omega) (hi_c2 (by omega) (hi_p1 (by omega) (hi_p1 (by omega) (hi_p1 (by omega) (hi_p1 (by omega) (hi_p1 (by omega) (hi_p1 (by omega) (hi_p1 (by omega) (hi_p1 (by omega) (hi_p1 (by omega) (hi_p1 (by omega) (hi_rf M)))))))))))))
theorem c_follow0 {l : Launch} {b : Nat} {x : Nat → Nat} {D : va_G} {dA : Nat → ClassId} {j a p0 q : Nat} {n : Nat} {M : fm_M} (hn : 586 ≤ n) (hA : fm_AP M) (hj : j < 4) (hp0 : p0 < 4) (ha : a < 8) (g8 : 8 ≤ q) (g586 : q + 3 < 586) (gl : (fm_lay q).1 = 5) (gl1 : fm_lay (q + 1) = (110, 6)) (gl2 : fm_lay (q + 2) = (110, 8)) (gl3 : fm_lay (q + 3) = (110, 8)) (hne : q ≠ 74) (ho1 : M.2.2 74 10 = some 75) (ho2 : M.2.2 74 11 = some 76) (ho3 : M.2.2 74 12 = some 77) (go1 : M.2.2 q 10 = some (q + 1)) (go2 : M.2.2 q 11 = some (q + 2)) (go3 : M.2.2 q 12 = some (q + 3)) (hq0 : M.1 q 0 = nI a) (hq1 : M.1 q 1 = nI p0) (hq2 : M.1 q 2 = 0) (hq3 : ¬ M.1 q 3 ≤ 0) (hq7 : M.1 q 7 = 0) (hq8 : M.1 q 8 = 0) (hq9 : M.1 q 9 = 0) (hlen : M.1 (82 + 2 * p0) 1 = 0) (hf1 : M.2.2 69 1 = some 73) (hf2 : M.2.2 69 2 = some 74) : Met l y_Fr_follow (Cond.code y_Fr_follow b_Fr_follow 6 none :: fm_T0) ({ frames := 8, cells := 0, slots := 0, locals := 370 }) (fm_Pc fm_lay fm_nf fm_fk fm_cl b x D dA (fm_tys dA) (fm_EX b x) false [.ref 69, .ref q, .int (nI j), .ref 60, .ref 9, .ref 10] n M) (fm_Qc fm_lay fm_nf fm_fk fm_cl b x D dA (fun r n' M' => r = none ∧ n' = n ∧ fm_hi M M')) 0 0 (fm_A b) := by
  refine fm_enter (by decide) (Nat.le_of_ble_eq_true rfl) ?_
  intro p e s m args below meth c hc hr hnm hex htg
  have e2 : (fm_put1 (fm_put1 (m_trc M 74 q 0 0) 73 a (vp_nar .boolean (nI 1))) 74 3 ((fm_put1 (m_trc M 74 q 0 0) 73 a (vp_nar .boolean (nI 1))).1 74 3 - nI 1)).1 74 2 = 0 := (p1_at (by decide)).trans ((p1_other (by decide)).trans (trc_2.trans hq2))
  have el : (fm_put1 (fm_put1 (m_trc M 74 q 0 0) 73 a (vp_nar .boolean (nI 1))) 74 3 ((fm_put1 (m_trc M 74 q 0 0) 73 a (vp_nar .boolean (nI 1))).1 74 3 - nI 1)).1 (82 + 2 * p0) 1 = 0 := (p1_other (by omega)).trans ((p1_other (by omega)).trans ((trc_oth (by omega) 1).trans hlen))
  have ha0 : ¬ (fm_put1 (fm_put1 (m_trc M 74 q 0 0) 73 a (vp_nar .boolean (nI 1))) 74 3 ((fm_put1 (m_trc M 74 q 0 0) 73 a (vp_nar .boolean (nI 1))).1 74 3 - nI 1)).1 74 2 < 0 := by rw [e2]; decide
  have hl0 : (fm_put1 (fm_put1 (m_trc M 74 q 0 0) 73 a (vp_nar .boolean (nI 1))) 74 3 ((fm_put1 (m_trc M 74 q 0 0) 73 a (vp_nar .boolean (nI 1))).1 74 3 - nI 1)).1 (82 + 2 * p0) 1 ≤ (fm_put1 (fm_put1 (m_trc M 74 q 0 0) 73 a (vp_nar .boolean (nI 1))) 74 3 ((fm_put1 (m_trc M 74 q 0 0) 73 a (vp_nar .boolean (nI 1))).1 74 3 - nI 1)).1 74 2 := by rw [e2, el]; decide
  have e7 : (fm_put1 (fm_put1 (fm_put1 (m_trc M 74 q 0 0) 73 a (vp_nar .boolean (nI 1))) 74 3 ((fm_put1 (m_trc M 74 q 0 0) 73 a (vp_nar .boolean (nI 1))).1 74 3 - nI 1)) 60 1 (-1)).1 74 7 = 0 := (p1_other (by decide)).trans ((p1_at (by decide)).trans ((p1_other (by decide)).trans (trc_7.trans hq7)))
  refine fm_aload_n hc d_Fr_follow_0 rfl rfl ?_
  refine fm_getR (k := 2) (q := 74) hc K_Fr d_Fr_follow_1 q_260 rfl (by decide) (by omega) (by decide) (by decide) (by decide) rfl hf2 ?_
  refine fm_aload_n hc d_Fr_follow_4 rfl rfl ?_
  refine fm_callV (av := [.ref q]) (rest := []) (ob := 74) (ci := 5) (r0 := ("AgentNet$Traveller", F_Tr, 13)) (y := y_Tr_copyFrom) (bytes := b_Tr_copyFrom) hc fm_T0_good (fm_EX_st b x) hex q_583 q_8 q_580 q_581 q_582 pd_Tr_copyFrom (by decide) (by omega) (by decide) (by decide) rfl rfl (c_trc (o := 74) (by omega) (by omega) (by omega) (by omega) (by omega) (by decide) (by decide) (by decide) (by decide) g8 (by omega) (by omega) (by omega) (by omega) gl gl1 gl2 gl3 hne ho1 ho2 ho3 go1 go2 go3 (Or.inl hq7) (show M.1 q 8 = nI 0 from hq8) (by omega) (show M.1 q 9 = nI 0 from hq9) (by omega)) ⟨rfl, rfl, Nat.le_of_ble_eq_true rfl, Nat.le_of_ble_eq_true rfl⟩ ⟨Nat.le_of_ble_eq_true rfl, Nat.le_of_ble_eq_true rfl⟩ d_Fr_follow_5 (Nat.le_of_ble_eq_true rfl) (fun r n2 M2 hp => ?_)
  obtain ⟨rfl, hq1, hq2⟩ := hp
  replace hq1 := hq1.symm
  replace hq2 := hq2.symm
  subst hq1 hq2
  refine fm_cnt (z' := (0, 0)) rfl (fm_st (st' := []) rfl ?_)
  refine fm_aload_n hc d_Fr_follow_8 rfl rfl ?_
  refine fm_aload_n hc d_Fr_follow_9 rfl rfl ?_
  refine fm_getR (k := 2) (q := 74) hc K_Fr d_Fr_follow_10 q_260 rfl (by decide) (by omega) (by decide) (by decide) (by decide) rfl hf2 ?_
  refine fm_iload_n hc d_Fr_follow_13 rfl rfl ?_
  refine fm_aload_n hc d_Fr_follow_14 rfl rfl ?_
  refine fm_aload hc d_Fr_follow_15 rfl ?_
  refine fm_aload_n hc d_Fr_follow_17 rfl rfl ?_
  refine fm_getR (k := 2) (q := 74) hc K_Fr d_Fr_follow_18 q_260 rfl (by decide) (by omega) (by decide) (by decide) (by decide) rfl hf2 ?_
  refine fm_getI (k := 1) hc K_Tr d_Fr_follow_21 q_177 rfl (by decide) (by omega) (by decide) (by decide) (by decide) rfl ?_
  refine fm_top (congrArg Value.int (trc_1.trans hq1)) ?_
  refine fm_aald (q := 82 + 2 * p0) (j := p0) (len := 4) hc 4 d_Fr_follow_24 (by decide) (by omega) (by decide) (by decide) rfl (by omega) (by decide) (ap_scr hA hp0) ?_
  refine fm_aload hc d_Fr_follow_25 rfl ?_
  refine fm_callV (av := [.ref 74, .int (nI j), .ref 60, .ref (82 + 2 * p0), .ref 10]) (rest := []) (ob := 69) (ci := 7) (r0 := ("AgentNet$FreeRun", F_Fr, 5)) (y := y_Fr_runAlone) (bytes := b_Fr_runAlone) hc fm_T0_good (fm_EX_st b x) hex q_590 q_7 q_587 q_589 qs_Fr_runAlone pd_Fr_runAlone (by decide) (by omega) (by decide) (by decide) rfl rfl (c_frun_no (M := m_trc M 74 q 0 0) (M9 := fm_put1 (fm_put1 (fm_put1 (m_trc M 74 q 0 0) 73 a (vp_nar .boolean (nI 1))) 74 3 ((fm_put1 (m_trc M 74 q 0 0) 73 a (vp_nar .boolean (nI 1))).1 74 3 - nI 1)) 60 1 (-1)) hn hA hj ha (by omega) (by omega) (ly_Sc hp0) hf1 (trc_0.trans hq0) (fun g => hq3 (by rw [← trc_3 (M := M) (o := 74) (q := q) (dd := 0) (pp := 0)]; exact g)) (c_perform_no (by omega) (by decide) (by omega) (by decide) (by omega) (by omega) (ly_Sc hp0) (c_read_no (M := fm_put1 (fm_put1 (m_trc M 74 q 0 0) 73 a (vp_nar .boolean (nI 1))) 74 3 ((fm_put1 (m_trc M 74 q 0 0) 73 a (vp_nar .boolean (nI 1))).1 74 3 - nI 1)) (by omega) (by decide) (by omega) (by decide) (by omega) (by omega) (ly_Sc hp0) (c_at_hi (M := fm_put1 (fm_put1 (m_trc M 74 q 0 0) 73 a (vp_nar .boolean (nI 1))) 74 3 ((fm_put1 (m_trc M 74 q 0 0) 73 a (vp_nar .boolean (nI 1))).1 74 3 - nI 1)) (by omega) (by omega) (ly_Sc hp0) ha0 hl0) (by decide)))) ⟨rfl, rfl, Nat.le_of_ble_eq_true rfl, Nat.le_of_ble_eq_true rfl⟩ ⟨Nat.le_of_ble_eq_true rfl, Nat.le_of_ble_eq_true rfl⟩ d_Fr_follow_27 (Nat.le_of_ble_eq_true rfl) (fun r n2 M2 hp => ?_)
  obtain ⟨rfl, hq1, hq2⟩ := hp
  replace hq1 := hq1.symm
  replace hq2 := hq2.symm
  subst hq1 hq2
  refine fm_cnt (z' := (0, 0)) rfl (fm_st (st' := []) rfl ?_)
  refine fm_aload_n hc d_Fr_follow_30 rfl rfl ?_
  refine fm_getR (k := 2) (q := 74) hc K_Fr d_Fr_follow_31 q_260 rfl (by decide) (by omega) (by decide) (by decide) (by decide) rfl hf2 ?_
  refine fm_getI (k := 7) hc K_Tr d_Fr_follow_34 q_205 rfl (by decide) (by omega) (by decide) (by decide) (by decide) rfl ?_
  refine fm_if_eq (tgt := 65) hc d_Fr_follow_37 rfl (fun _ => ?_) (fun g => absurd e7 g)
  exact fm_vret hc hr d_Fr_follow_65 (Nat.le_refl _) (Nat.le_refl _) ⟨rfl, rfl, hi_p1 (by omega) (hi_p1 (by omega) (hi_p1 (by omega) (trc_hi (by omega))))⟩
