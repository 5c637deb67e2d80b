/-! THE CLASS: grant of a clone -/
theorem ly_stk : ∀ a, a < 8 → fm_layM.getD (10 + 4 * a) (99, 0) = (110, 6) ∧ fm_layM.getD (11 + 4 * a) (99, 0) = (110, 8) ∧ fm_layM.getD (12 + 4 * a) (99, 0) = (110, 8) := by decide +kernel
theorem isM_trL {mm a n : Nat} (hM : fm_isM mm) (ha : a < 8) (hn : 586 ≤ n) : tr_L n (mm + (9 + 4 * a)) := by
  have hlo := isM_lo hM
  have h := ly_stk a ha
  refine ⟨by omega, by omega, ly_Mt hM ha, ?_, ?_, ?_⟩
  · rw [show mm + (9 + 4 * a) + 1 = mm + (10 + 4 * a) by omega, ly_M hM (by omega)]
    exact h.1
  · rw [show mm + (9 + 4 * a) + 2 = mm + (11 + 4 * a) by omega, ly_M hM (by omega)]
    exact h.2.1
  · rw [show mm + (9 + 4 * a) + 3 = mm + (12 + 4 * a) by omega, ly_M hM (by omega)]
    exact h.2.2
theorem isM_trP {mm a : Nat} {M : fm_M} (hP : fm_MP M mm) (ha : a < 8) : tr_P M (mm + (9 + 4 * a)) := by
  obtain ⟨-, -, -, -, -, -, -, -, h⟩ := hP
  have k := (h a ha).2
  exact ⟨k.1.trans (congrArg some (by omega)), k.2.1.trans (congrArg some (by omega)), k.2.2.trans (congrArg some (by omega))⟩
def m_kid (M : fm_M) (o q w : Nat) (P : ag_T) : fm_M := fm_put2 (fm_put1 (fm_put1 (fm_put1 (fm_put1 (fm_put1 (fm_put1 (m_trc M o q P.2.1.length P.2.2.length) o 0 (nI (P.1 0 + 4))) o 3 (nI w)) o 4 (nI 0)) o 5 (nI 0)) o 6 (nI 0)) o 7 (nI 0)) (o + 1) (P.2.1.length - 1) 1
theorem c_grant3 {l : Launch} {b : Nat} {x : Nat → Nat} {D : va_G} {dA : Nat → ClassId} {mm a w : Nat} {P : ag_T} {n : Nat} {M : fm_M} (hn : 586 ≤ n) (hM : fm_isM mm) (hP : fm_MP M mm) (ha4 : a < 4) (h : hc_A M (mm + (9 + 4 * a)) P) (ok : ag_ok P) (hd1 : 1 ≤ P.2.1.length) (b7 : P.1 7 ≤ 1) : Met l y_Me_grant (Cond.code y_Me_grant b_Me_grant 4 none :: fm_T0) ({ frames := 3, cells := 0, slots := 0, locals := 110 }) (fm_Pc fm_lay fm_nf fm_fk fm_cl b x D dA (fm_tys dA) (fm_EX b x) false [.ref mm, .int (nI a), .int (nI 3), .int (nI w)] n M) (fm_Qc fm_lay fm_nf fm_fk fm_cl b x D dA (fun r n' M' => r = none ∧ n' = n ∧ M' = m_settle (m_kid M (mm + (9 + 4 * (a + 4))) (mm + (9 + 4 * a)) w P) mm (a + 4) (nI 0))) 0 0 (fm_A b) := by
  refine fm_enter (by decide) (Nat.le_of_ble_eq_true rfl) ?_
  intro p e s m args below meth c9 hc hr hnm hex htg
  have hlo := isM_lo hM
  refine fm_iload_n hc d_Me_grant_0 rfl rfl ?_
  refine fm_tableIn (off := 75) (tgt := 76) hc d_Me_grant_1 (by decide) (by decide) rfl rfl ?_
  refine fm_aload_n hc d_Me_grant_76 rfl rfl ?_
  refine fm_getR (k := 4) (q := mm + 5) hc K_Me d_Me_grant_77 q_314 rfl (by omega) (by omega) (ly_M0 hM) (by decide) (by decide) rfl hP.2.2.2.2.1 ?_
  refine fm_iload_n hc d_Me_grant_80 rfl rfl ?_
  refine fm_iconst (v := nI 4) hc d_Me_grant_81 rfl ?_
  refine fm_iadd hc d_Me_grant_82 ?_
  refine fm_top (congrArg Value.int (nI_add a 4)) ?_
  refine fm_aald (q := mm + (9 + 4 * (a + 4))) (j := a + 4) (len := 8) hc 7 d_Me_grant_83 (by omega) (by omega) (ly_M hM (k := 5) (by omega)) (by decide) rfl (by omega) (by decide) (hP.2.2.2.2.2.2.2.2 (a + 4) (show a + 4 < 8 by omega)).1 ?_
  refine fm_aload_n hc d_Me_grant_84 rfl rfl ?_
  refine fm_getR (k := 4) (q := mm + 5) hc K_Me d_Me_grant_85 q_314 rfl (by omega) (by omega) (ly_M0 hM) (by decide) (by decide) rfl hP.2.2.2.2.1 ?_
  refine fm_iload_n hc d_Me_grant_88 rfl rfl ?_
  refine fm_aald (q := mm + (9 + 4 * a)) (j := a) (len := 8) hc 7 d_Me_grant_89 (by omega) (by omega) (ly_M hM (k := 5) (by omega)) (by decide) rfl (by omega) (by decide) (hP.2.2.2.2.2.2.2.2 a (show a < 8 by omega)).1 ?_
  refine fm_iload_n hc d_Me_grant_90 rfl rfl ?_
  refine fm_callV (av := [.ref (mm + (9 + 4 * a)), .int (nI w)]) (rest := []) (ob := mm + (9 + 4 * (a + 4))) (ci := 5) (r0 := ("AgentNet$Traveller", F_Tr, 13)) (y := y_Tr_becomeChildOf) (bytes := b_Tr_becomeChildOf) hc fm_T0_good (fm_EX_st b x) hex q_678 q_8 q_701 q_676 q_677 pd_Tr_becomeChildOf (by omega) (by omega) (ly_Mt hM (show a + 4 < 8 by omega)) (by decide) rfl rfl (c_child (P := P) (isM_trL hM (by omega) hn) (isM_trL hM (by omega) hn) (isM_trP hP (by omega)) (isM_trP hP (by omega)) (by omega) h ok hd1 b7) ⟨rfl, rfl, Nat.le_of_ble_eq_true rfl, Nat.le_of_ble_eq_true rfl⟩ ⟨Nat.le_of_ble_eq_true rfl, Nat.le_of_ble_eq_true rfl⟩ d_Me_grant_91 (Nat.le_of_ble_eq_true rfl) (fun r n2 M2 hp => ?_)
  obtain ⟨rfl, hq1, hq2⟩ := hp
  replace hq1 := hq1.symm
  replace hq2 : M2 = m_kid M (mm + (9 + 4 * (a + 4))) (mm + (9 + 4 * a)) w P := hq2
  replace hq2 := hq2.symm
  subst hq1 hq2
  have hPk : fm_MP (m_kid M (mm + (9 + 4 * (a + 4))) (mm + (9 + 4 * a)) w P) mm := hP
  refine fm_cnt (z' := (0, 0)) rfl (fm_st (st' := []) rfl ?_)
  refine fm_aload_n hc d_Me_grant_94 rfl rfl ?_
  refine fm_iload_n hc d_Me_grant_95 rfl rfl ?_
  refine fm_iconst (v := nI 4) hc d_Me_grant_96 rfl ?_
  refine fm_iadd hc d_Me_grant_97 ?_
  refine fm_top (congrArg Value.int (nI_add a 4)) ?_
  refine fm_iconst (v := nI 0) hc d_Me_grant_98 rfl ?_
  refine fm_callV (av := [.int (nI (a + 4)), .int (nI 0)]) (rest := []) (ob := mm) (ci := 6) (r0 := ("AgentNet$Memory", F_Me, 6)) (y := y_Me_settle) (bytes := b_Me_settle) hc fm_T0_good (fm_EX_st b x) hex q_574 q_11 q_702 q_572 q_573 pd_Me_settle (by omega) (by omega) (ly_M0 hM) (by decide) rfl rfl (c_settle hn hM hPk (by omega)) ⟨rfl, rfl, Nat.le_of_ble_eq_true rfl, Nat.le_of_ble_eq_true rfl⟩ ⟨Nat.le_of_ble_eq_true rfl, Nat.le_of_ble_eq_true rfl⟩ d_Me_grant_99 (Nat.le_of_ble_eq_true rfl) (fun r n2 M2 hp => ?_)
  obtain ⟨rfl, hq1, hq2⟩ := hp
  replace hq1 := hq1.symm
  replace hq2 := hq2.symm
  subst hq1 hq2
  refine fm_cnt (z' := (0, 0)) rfl (fm_st (st' := []) rfl ?_)
  refine fm_goto (tgt := 125) hc d_Me_grant_102 rfl ?_
  exact fm_vret hc hr d_Me_grant_125 (Nat.le_refl _) (Nat.le_refl _) ⟨rfl, rfl, rfl⟩
