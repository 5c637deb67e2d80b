/-! program on both sides -/
theorem ly_Sc {j : Nat} (hj : j < 4) : (fm_lay (82 + 2 * j)).1 = 1 := by
  rcases ap_four hj with rfl | rfl | rfl | rfl <;> rfl
theorem ly_Sb {j : Nat} (hj : j < 4) : fm_lay (83 + 2 * j) = (100, 48) := by
  rcases ap_four hj with rfl | rfl | rfl | rfl <;> rfl
theorem ap_scr {M : fm_M} (h : fm_AP M) {j : Nat} (hj : j < 4) : M.2.2 9 j = some (82 + 2 * j) := by
  rcases ap_four hj with rfl | rfl | rfl | rfl
  · exact h (9, 0, 82) (List.mem_of_getElem? (i := 15) rfl)
  · exact h (9, 1, 84) (List.mem_of_getElem? (i := 16) rfl)
  · exact h (9, 2, 86) (List.mem_of_getElem? (i := 17) rfl)
  · exact h (9, 3, 88) (List.mem_of_getElem? (i := 18) rfl)
theorem over48 {a : Nat} (h : 48 < a) (h2 : a < 100) : ¬ nI a ≤ nI 48 := fun g => by
  have := (nI_leI (by omega) (by decide)).mp g
  omega
theorem c_append_full {l : Launch} {b : Nat} {x : Nat → Nat} {D : va_G} {dA : Nat → ClassId} {o n k0 c0 : Nat} {y : Int64} {M : fm_M} (h8 : 8 ≤ o) (ho : o < n) (hl : (fm_lay o).1 = 1) (hk0 : M.1 o 1 = nI k0) (hc0 : 48 < k0 + c0) (hs : k0 + c0 < 100) : Met l y_Sc_append (Cond.code y_Sc_append b_Sc_append 5 (some .int) :: fm_T0) ({ frames := 0, cells := 0, slots := 0, locals := 0 }) (fm_Pc fm_lay fm_nf fm_fk fm_cl b x D dA (fm_tys dA) (fm_EX b x) false [.ref o, .long y, .int (nI c0)] n M) (fm_Qc fm_lay fm_nf fm_fk fm_cl b x D dA (fun r n' M' => r = some (.int (-1)) ∧ n' = n ∧ M' = M)) 0 0 (fm_A b) := by
  refine fm_enter (by decide) (Nat.le_of_ble_eq_true rfl) ?_
  intro p e s m args below meth c hc hr hnm hex htg
  refine fm_aload_n hc d_Sc_append_0 rfl rfl ?_
  refine fm_getI (k := 1) hc K_Sc d_Sc_append_1 q_280 rfl h8 ho hl (by decide) (by decide) rfl ?_
  refine fm_top (congrArg Value.int hk0) ?_
  refine fm_iload_n hc d_Sc_append_4 rfl rfl ?_
  refine fm_iadd hc d_Sc_append_5 ?_
  refine fm_top (congrArg Value.int (nI_add k0 c0)) ?_
  refine fm_bipush (v := nI 48) hc d_Sc_append_6 rfl ?_
  refine fm_icmp_le (tgt := 13) hc d_Sc_append_8 rfl (fun g => absurd g (over48 hc0 hs)) (fun _ => ?_)
  refine fm_iconst (v := (-1)) hc d_Sc_append_11 rfl ?_
  exact fm_iret hc hr d_Sc_append_12 (Nat.le_refl _) (Nat.le_refl _) ⟨rfl, rfl, rfl⟩
theorem c_program_bad1 {l : Launch} {b : Nat} {x : Nat → Nat} {D : va_G} {dA : Nat → ClassId} {v w : Int32} {y : Int64} {n : Nat} {M : fm_M} (hn : 586 ≤ n) (hA : fm_AP M) (hv : ¬ fm_in 4 v) : Met l y_An_program (Cond.code y_An_program b_An_program 5 (some .int) :: fm_T0) ({ frames := 1, cells := 0, slots := 0, locals := 24 }) (fm_Pc fm_lay fm_nf fm_fk fm_cl b x D dA (fm_tys dA) (fm_EX b x) false [.ref 8, .int v, .long y, .int w] n M) (fm_Qc fm_lay fm_nf fm_fk fm_cl b x D dA (fun r n' M' => r = some (.int ((-1))) ∧ n' = n ∧ M' = M)) 0 0 (fm_A b) := by
  refine fm_enter (by decide) (Nat.le_of_ble_eq_true rfl) ?_
  intro p e s m args below meth c hc hr hnm hex htg
  refine fm_iload_n hc d_An_program_0 rfl rfl ?_
  refine fm_callS (av := [.int v]) (rest := []) (y := y_An_isProgram) (bytes := b_An_isProgram) hc fm_T0_good (fm_EX_st b x) hex q_386 q_1 q_384 q_385 pd_An_isProgram (c_An_isProgram_no hv) ⟨rfl, rfl, Nat.le_of_ble_eq_true rfl, Nat.le_of_ble_eq_true rfl⟩ ⟨Nat.le_of_ble_eq_true rfl, Nat.le_of_ble_eq_true rfl⟩ d_An_program_1 (Nat.le_of_ble_eq_true rfl) (fun r n2 M2 hp => ?_)
  obtain ⟨rfl, hq1, hq2⟩ := hp
  replace hq1 := hq1.symm
  replace hq2 := hq2.symm
  subst hq1 hq2
  refine fm_cnt (z' := (0, 0)) rfl (fm_st (st' := [.int (nI 0)]) rfl ?_)
  refine fm_if_eq (tgt := 27) hc d_An_program_4 rfl (fun _ => ?_) (fun g => absurd rfl g)
  refine fm_iconst (v := (-1)) hc d_An_program_27 rfl ?_
  exact fm_iret hc hr d_An_program_28 (Nat.le_refl _) (Nat.le_refl _) ⟨rfl, rfl, rfl⟩
theorem c_program_bad2 {l : Launch} {b : Nat} {x : Nat → Nat} {D : va_G} {dA : Nat → ClassId} {v w : Int32} {y : Int64} {n : Nat} {M : fm_M} (hn : 586 ≤ n) (hA : fm_AP M) (hv : fm_in 4 v) (hw : w < nI 1) : Met l y_An_program (Cond.code y_An_program b_An_program 5 (some .int) :: fm_T0) ({ frames := 1, cells := 0, slots := 0, locals := 24 }) (fm_Pc fm_lay fm_nf fm_fk fm_cl b x D dA (fm_tys dA) (fm_EX b x) false [.ref 8, .int v, .long y, .int w] n M) (fm_Qc fm_lay fm_nf fm_fk fm_cl b x D dA (fun r n' M' => r = some (.int ((-1))) ∧ n' = n ∧ M' = M)) 0 0 (fm_A b) := by
  refine fm_enter (by decide) (Nat.le_of_ble_eq_true rfl) ?_
  intro p e s m args below meth c hc hr hnm hex htg
  refine fm_iload_n hc d_An_program_0 rfl rfl ?_
  refine fm_callS (av := [.int v]) (rest := []) (y := y_An_isProgram) (bytes := b_An_isProgram) hc fm_T0_good (fm_EX_st b x) hex q_386 q_1 q_384 q_385 pd_An_isProgram (c_An_isProgram_ok hv) ⟨rfl, rfl, Nat.le_of_ble_eq_true rfl, Nat.le_of_ble_eq_true rfl⟩ ⟨Nat.le_of_ble_eq_true rfl, Nat.le_of_ble_eq_true rfl⟩ d_An_program_1 (Nat.le_of_ble_eq_true rfl) (fun r n2 M2 hp => ?_)
  obtain ⟨rfl, hq1, hq2⟩ := hp
  replace hq1 := hq1.symm
  replace hq2 := hq2.symm
  subst hq1 hq2
  refine fm_cnt (z' := (0, 0)) rfl (fm_st (st' := [.int (nI 1)]) rfl ?_)
  refine fm_if_eq (tgt := 27) hc d_An_program_4 rfl (fun g => absurd g (by decide)) (fun _ => ?_)
  refine fm_iload hc d_An_program_7 rfl ?_
  refine fm_iconst (v := nI 1) hc d_An_program_9 rfl ?_
  refine fm_icmp_lt (tgt := 27) hc d_An_program_10 rfl (fun _ => ?_) (fun g => absurd hw g)
  refine fm_iconst (v := (-1)) hc d_An_program_27 rfl ?_
  exact fm_iret hc hr d_An_program_28 (Nat.le_refl _) (Nat.le_refl _) ⟨rfl, rfl, rfl⟩
theorem c_program_bad3 {l : Launch} {b : Nat} {x : Nat → Nat} {D : va_G} {dA : Nat → ClassId} {v w : Int32} {y : Int64} {n : Nat} {M : fm_M} (hn : 586 ≤ n) (hA : fm_AP M) (hv : fm_in 4 v) (hw : ¬ w < nI 1) (hw2 : nI 8 < w) : Met l y_An_program (Cond.code y_An_program b_An_program 5 (some .int) :: fm_T0) ({ frames := 1, cells := 0, slots := 0, locals := 24 }) (fm_Pc fm_lay fm_nf fm_fk fm_cl b x D dA (fm_tys dA) (fm_EX b x) false [.ref 8, .int v, .long y, .int w] n M) (fm_Qc fm_lay fm_nf fm_fk fm_cl b x D dA (fun r n' M' => r = some (.int ((-1))) ∧ n' = n ∧ M' = M)) 0 0 (fm_A b) := by
  refine fm_enter (by decide) (Nat.le_of_ble_eq_true rfl) ?_
  intro p e s m args below meth c hc hr hnm hex htg
  refine fm_iload_n hc d_An_program_0 rfl rfl ?_
  refine fm_callS (av := [.int v]) (rest := []) (y := y_An_isProgram) (bytes := b_An_isProgram) hc fm_T0_good (fm_EX_st b x) hex q_386 q_1 q_384 q_385 pd_An_isProgram (c_An_isProgram_ok hv) ⟨rfl, rfl, Nat.le_of_ble_eq_true rfl, Nat.le_of_ble_eq_true rfl⟩ ⟨Nat.le_of_ble_eq_true rfl, Nat.le_of_ble_eq_true rfl⟩ d_An_program_1 (Nat.le_of_ble_eq_true rfl) (fun r n2 M2 hp => ?_)
  obtain ⟨rfl, hq1, hq2⟩ := hp
  replace hq1 := hq1.symm
  replace hq2 := hq2.symm
  subst hq1 hq2
  refine fm_cnt (z' := (0, 0)) rfl (fm_st (st' := [.int (nI 1)]) rfl ?_)
  refine fm_if_eq (tgt := 27) hc d_An_program_4 rfl (fun g => absurd g (by decide)) (fun _ => ?_)
  refine fm_iload hc d_An_program_7 rfl ?_
  refine fm_iconst (v := nI 1) hc d_An_program_9 rfl ?_
  refine fm_icmp_lt (tgt := 27) hc d_An_program_10 rfl (fun g => absurd g hw) (fun _ => ?_)
  refine fm_iload hc d_An_program_13 rfl ?_
  refine fm_bipush (v := nI 8) hc d_An_program_15 rfl ?_
  refine fm_icmp_gt (tgt := 27) hc d_An_program_17 rfl (fun _ => ?_) (fun g => absurd hw2 g)
  refine fm_iconst (v := (-1)) hc d_An_program_27 rfl ?_
  exact fm_iret hc hr d_An_program_28 (Nat.le_refl _) (Nat.le_refl _) ⟨rfl, rfl, rfl⟩
theorem c_program_late {l : Launch} {b : Nat} {x : Nat → Nat} {D : va_G} {dA : Nat → ClassId} {v w : Int32} {y : Int64} {n : Nat} {M : fm_M} (hn : 586 ≤ n) (hA : fm_AP M) (hv : fm_in 4 v) (hw : ¬ w < nI 1) (hw2 : ¬ nI 8 < w) (hL : ¬ M.1 8 7 ≤ 0) : Met l y_An_program (Cond.code y_An_program b_An_program 5 (some .int) :: fm_T0) ({ frames := 1, cells := 0, slots := 0, locals := 24 }) (fm_Pc fm_lay fm_nf fm_fk fm_cl b x D dA (fm_tys dA) (fm_EX b x) false [.ref 8, .int v, .long y, .int w] n M) (fm_Qc fm_lay fm_nf fm_fk fm_cl b x D dA (fun r n' M' => r = some (.int ((-1))) ∧ n' = n ∧ M' = M)) 0 0 (fm_A b) := by
  refine fm_enter (by decide) (Nat.le_of_ble_eq_true rfl) ?_
  intro p e s m args below meth c hc hr hnm hex htg
  refine fm_iload_n hc d_An_program_0 rfl rfl ?_
  refine fm_callS (av := [.int v]) (rest := []) (y := y_An_isProgram) (bytes := b_An_isProgram) hc fm_T0_good (fm_EX_st b x) hex q_386 q_1 q_384 q_385 pd_An_isProgram (c_An_isProgram_ok hv) ⟨rfl, rfl, Nat.le_of_ble_eq_true rfl, Nat.le_of_ble_eq_true rfl⟩ ⟨Nat.le_of_ble_eq_true rfl, Nat.le_of_ble_eq_true rfl⟩ d_An_program_1 (Nat.le_of_ble_eq_true rfl) (fun r n2 M2 hp => ?_)
  obtain ⟨rfl, hq1, hq2⟩ := hp
  replace hq1 := hq1.symm
  replace hq2 := hq2.symm
  subst hq1 hq2
  refine fm_cnt (z' := (0, 0)) rfl (fm_st (st' := [.int (nI 1)]) rfl ?_)
  refine fm_if_eq (tgt := 27) hc d_An_program_4 rfl (fun g => absurd g (by decide)) (fun _ => ?_)
  refine fm_iload hc d_An_program_7 rfl ?_
  refine fm_iconst (v := nI 1) hc d_An_program_9 rfl ?_
  refine fm_icmp_lt (tgt := 27) hc d_An_program_10 rfl (fun g => absurd g hw) (fun _ => ?_)
  refine fm_iload hc d_An_program_13 rfl ?_
  refine fm_bipush (v := nI 8) hc d_An_program_15 rfl ?_
  refine fm_icmp_gt (tgt := 27) hc d_An_program_17 rfl (fun g => absurd g hw2) (fun _ => ?_)
  refine fm_aload_n hc d_An_program_20 rfl rfl ?_
  refine fm_getI (k := 7) hc K_An d_An_program_21 q_362 rfl (by decide) (by omega) (by decide) (by decide) (by decide) rfl ?_
  refine fm_if_le (tgt := 29) hc d_An_program_24 rfl (fun g => absurd g hL) (fun _ => ?_)
  refine fm_iconst (v := (-1)) hc d_An_program_27 rfl ?_
  exact fm_iret hc hr d_An_program_28 (Nat.le_refl _) (Nat.le_refl _) ⟨rfl, rfl, rfl⟩
theorem c_program_ok {l : Launch} {b : Nat} {x : Nat → Nat} {D : va_G} {dA : Nat → ClassId} {j k0 c0 : Nat} {y : Int64} {n : Nat} {M : fm_M} (hn : 586 ≤ n) (hA : fm_AP M) (hj : j < 4) (h1 : 1 ≤ c0) (h8 : c0 ≤ 8) (hL : M.1 8 7 ≤ 0) (hk0 : M.1 (82 + 2 * j) 1 = nI k0) (hb : M.2.2 (82 + 2 * j) 0 = some (83 + 2 * j)) (hc0 : k0 + c0 ≤ 48) : Met l y_An_program (Cond.code y_An_program b_An_program 5 (some .int) :: fm_T0) ({ frames := 1, cells := 0, slots := 0, locals := 24 }) (fm_Pc fm_lay fm_nf fm_fk fm_cl b x D dA (fm_tys dA) (fm_EX b x) false [.ref 8, .int (nI j), .long y, .int (nI c0)] n M) (fm_Qc fm_lay fm_nf fm_fk fm_cl b x D dA (fun r n' M' => r = some (.int (nI (k0 + c0))) ∧ n' = n ∧ M' = m_app (82 + 2 * j) (83 + 2 * j) y c0 k0 M)) 0 0 (fm_A b) := by
  refine fm_enter (by decide) (Nat.le_of_ble_eq_true rfl) ?_
  intro p e s m args below meth c hc hr hnm hex htg
  refine fm_iload_n hc d_An_program_0 rfl rfl ?_
  refine fm_callS (av := [.int (nI j)]) (rest := []) (y := y_An_isProgram) (bytes := b_An_isProgram) hc fm_T0_good (fm_EX_st b x) hex q_386 q_1 q_384 q_385 pd_An_isProgram (c_An_isProgram_ok (in4_of hj)) ⟨rfl, rfl, Nat.le_of_ble_eq_true rfl, Nat.le_of_ble_eq_true rfl⟩ ⟨Nat.le_of_ble_eq_true rfl, Nat.le_of_ble_eq_true rfl⟩ d_An_program_1 (Nat.le_of_ble_eq_true rfl) (fun r n2 M2 hp => ?_)
  obtain ⟨rfl, hq1, hq2⟩ := hp
  replace hq1 := hq1.symm
  replace hq2 := hq2.symm
  subst hq1 hq2
  refine fm_cnt (z' := (0, 0)) rfl (fm_st (st' := [.int (nI 1)]) rfl ?_)
  refine fm_if_eq (tgt := 27) hc d_An_program_4 rfl (fun g => absurd g (by decide)) (fun _ => ?_)
  refine fm_iload hc d_An_program_7 rfl ?_
  refine fm_iconst (v := nI 1) hc d_An_program_9 rfl ?_
  refine fm_icmp_lt (tgt := 27) hc d_An_program_10 rfl (fun g => absurd g (wi_18 h1 h8).1) (fun _ => ?_)
  refine fm_iload hc d_An_program_13 rfl ?_
  refine fm_bipush (v := nI 8) hc d_An_program_15 rfl ?_
  refine fm_icmp_gt (tgt := 27) hc d_An_program_17 rfl (fun g => absurd g (wi_18 h1 h8).2) (fun _ => ?_)
  refine fm_aload_n hc d_An_program_20 rfl rfl ?_
  refine fm_getI (k := 7) hc K_An d_An_program_21 q_362 rfl (by decide) (by omega) (by decide) (by decide) (by decide) rfl ?_
  refine fm_if_le (tgt := 29) hc d_An_program_24 rfl (fun _ => ?_) (fun g => absurd hL g)
  refine fm_aload_n hc d_An_program_29 rfl rfl ?_
  refine fm_getR (k := 0) (q := 9) hc K_An d_An_program_30 q_355 rfl (by decide) (by omega) (by decide) (by decide) (by decide) rfl (ap_0 hA) ?_
  refine fm_iload_n hc d_An_program_33 rfl rfl ?_
  refine fm_aald (q := 82 + 2 * j) (j := j) (len := 4) hc 4 d_An_program_34 (by decide) (by omega) (by decide) (by decide) rfl (by omega) (by decide) (ap_scr hA hj) ?_
  refine fm_lload_n hc d_An_program_35 rfl rfl ?_
  refine fm_iload hc d_An_program_36 rfl ?_
  refine fm_callV (av := [.long y, .int (nI c0)]) (rest := []) (ob := 82 + 2 * j) (ci := 1) (r0 := ("AgentNet$Script", F_Sc, 2)) (y := y_Sc_append) (bytes := b_Sc_append) hc fm_T0_good (fm_EX_st b x) hex q_390 q_9 q_387 q_388 q_389 pd_Sc_append (by omega) (by omega) (ly_Sc hj) (by decide) rfl rfl (c_append_ok (q := 83 + 2 * j) (by omega) (by omega) (ly_Sc hj) (by omega) (by omega) (ly_Sb hj) (by omega) hb hk0 hc0) ⟨rfl, rfl, Nat.le_of_ble_eq_true rfl, Nat.le_of_ble_eq_true rfl⟩ ⟨Nat.le_of_ble_eq_true rfl, Nat.le_of_ble_eq_true rfl⟩ d_An_program_38 (Nat.le_of_ble_eq_true rfl) (fun r n2 M2 hp => ?_)
  obtain ⟨rfl, hq1, hq2⟩ := hp
  replace hq1 := hq1.symm
  replace hq2 := hq2.symm
  subst hq1 hq2
  refine fm_cnt (z' := (0, 0)) rfl (fm_st (st' := [.int (nI (k0 + c0))]) rfl ?_)
  exact fm_iret hc hr d_An_program_41 (Nat.le_refl _) (Nat.le_refl _) ⟨rfl, rfl, rfl⟩
theorem c_program_full {l : Launch} {b : Nat} {x : Nat → Nat} {D : va_G} {dA : Nat → ClassId} {j k0 c0 : Nat} {y : Int64} {n : Nat} {M : fm_M} (hn : 586 ≤ n) (hA : fm_AP M) (hj : j < 4) (h1 : 1 ≤ c0) (h8 : c0 ≤ 8) (hL : M.1 8 7 ≤ 0) (hk0 : M.1 (82 + 2 * j) 1 = nI k0) (hk : k0 ≤ 48) (hc0 : 48 < k0 + c0) : Met l y_An_program (Cond.code y_An_program b_An_program 5 (some .int) :: fm_T0) ({ frames := 1, cells := 0, slots := 0, locals := 24 }) (fm_Pc fm_lay fm_nf fm_fk fm_cl b x D dA (fm_tys dA) (fm_EX b x) false [.ref 8, .int (nI j), .long y, .int (nI c0)] n M) (fm_Qc fm_lay fm_nf fm_fk fm_cl b x D dA (fun r n' M' => r = some (.int ((-1))) ∧ n' = n ∧ M' = M)) 0 0 (fm_A b) := by
  refine fm_enter (by decide) (Nat.le_of_ble_eq_true rfl) ?_
  intro p e s m args below meth c hc hr hnm hex htg
  refine fm_iload_n hc d_An_program_0 rfl rfl ?_
  refine fm_callS (av := [.int (nI j)]) (rest := []) (y := y_An_isProgram) (bytes := b_An_isProgram) hc fm_T0_good (fm_EX_st b x) hex q_386 q_1 q_384 q_385 pd_An_isProgram (c_An_isProgram_ok (in4_of hj)) ⟨rfl, rfl, Nat.le_of_ble_eq_true rfl, Nat.le_of_ble_eq_true rfl⟩ ⟨Nat.le_of_ble_eq_true rfl, Nat.le_of_ble_eq_true rfl⟩ d_An_program_1 (Nat.le_of_ble_eq_true rfl) (fun r n2 M2 hp => ?_)
  obtain ⟨rfl, hq1, hq2⟩ := hp
  replace hq1 := hq1.symm
  replace hq2 := hq2.symm
  subst hq1 hq2
  refine fm_cnt (z' := (0, 0)) rfl (fm_st (st' := [.int (nI 1)]) rfl ?_)
  refine fm_if_eq (tgt := 27) hc d_An_program_4 rfl (fun g => absurd g (by decide)) (fun _ => ?_)
  refine fm_iload hc d_An_program_7 rfl ?_
  refine fm_iconst (v := nI 1) hc d_An_program_9 rfl ?_
  refine fm_icmp_lt (tgt := 27) hc d_An_program_10 rfl (fun g => absurd g (wi_18 h1 h8).1) (fun _ => ?_)
  refine fm_iload hc d_An_program_13 rfl ?_
  refine fm_bipush (v := nI 8) hc d_An_program_15 rfl ?_
  refine fm_icmp_gt (tgt := 27) hc d_An_program_17 rfl (fun g => absurd g (wi_18 h1 h8).2) (fun _ => ?_)
  refine fm_aload_n hc d_An_program_20 rfl rfl ?_
  refine fm_getI (k := 7) hc K_An d_An_program_21 q_362 rfl (by decide) (by omega) (by decide) (by decide) (by decide) rfl ?_
  refine fm_if_le (tgt := 29) hc d_An_program_24 rfl (fun _ => ?_) (fun g => absurd hL g)
  refine fm_aload_n hc d_An_program_29 rfl rfl ?_
  refine fm_getR (k := 0) (q := 9) hc K_An d_An_program_30 q_355 rfl (by decide) (by omega) (by decide) (by decide) (by decide) rfl (ap_0 hA) ?_
  refine fm_iload_n hc d_An_program_33 rfl rfl ?_
  refine fm_aald (q := 82 + 2 * j) (j := j) (len := 4) hc 4 d_An_program_34 (by decide) (by omega) (by decide) (by decide) rfl (by omega) (by decide) (ap_scr hA hj) ?_
  refine fm_lload_n hc d_An_program_35 rfl rfl ?_
  refine fm_iload hc d_An_program_36 rfl ?_
  refine fm_callV (av := [.long y, .int (nI c0)]) (rest := []) (ob := 82 + 2 * j) (ci := 1) (r0 := ("AgentNet$Script", F_Sc, 2)) (y := y_Sc_append) (bytes := b_Sc_append) hc fm_T0_good (fm_EX_st b x) hex q_390 q_9 q_387 q_388 q_389 pd_Sc_append (by omega) (by omega) (ly_Sc hj) (by decide) rfl rfl (c_append_full (by omega) (by omega) (ly_Sc hj) hk0 hc0 (by omega)) ⟨rfl, rfl, Nat.le_of_ble_eq_true rfl, Nat.le_of_ble_eq_true rfl⟩ ⟨Nat.le_of_ble_eq_true rfl, Nat.le_of_ble_eq_true rfl⟩ d_An_program_38 (Nat.le_of_ble_eq_true rfl) (fun r n2 M2 hp => ?_)
  obtain ⟨rfl, hq1, hq2⟩ := hp
  replace hq1 := hq1.symm
  replace hq2 := hq2.symm
  subst hq1 hq2
  refine fm_cnt (z' := (0, 0)) rfl (fm_st (st' := [.int ((-1))]) rfl ?_)
  exact fm_iret hc hr d_An_program_41 (Nat.le_refl _) (Nat.le_refl _) ⟨rfl, rfl, rfl⟩
theorem r_program_bad1 {l : Launch} {b : Nat} {x : Nat → Nat} {D : va_G} {dA : Nat → ClassId} {v w : Int32} {y : Int64} {n : Nat} {M : fm_M} (hn : 629 ≤ n) (hR : fm_RP M) (hv : ¬ fm_in 4 v) : Met l y_Mo_program (Cond.code y_Mo_program b_Mo_program 6 (some .int) :: fm_T0) ({ frames := 1, cells := 0, slots := 0, locals := 22 }) (fm_Pc fm_lay fm_nf fm_fk fm_cl b x D dA (fm_tys dA) (fm_EX b x) false [.ref 586, .int v, .long y, .int w] n M) (fm_Qc fm_lay fm_nf fm_fk fm_cl b x D dA (fun r n' M' => r = some (.int ((-1))) ∧ n' = n ∧ M' = fm_put1 M 586 0 (nI 0))) 0 0 (fm_A b) := by
  refine fm_enter (by decide) (Nat.le_of_ble_eq_true rfl) ?_
  intro p e s m args below meth c hc hr hnm hex htg
  refine fm_aload_n hc d_Mo_program_0 rfl rfl ?_
  refine fm_iconst (v := nI 0) hc d_Mo_program_1 rfl ?_
  refine fm_putI (k := 0) (v := nI 0) hc K_Mo d_Mo_program_2 q_885 rfl (by decide) (by omega) (by decide) (by decide) (by decide) rfl rfl rfl rfl ?_
  refine fm_iload_n hc d_Mo_program_5 rfl rfl ?_
  refine fm_iconst (v := nI 0) hc d_Mo_program_6 rfl ?_
  refine fm_iconst (v := nI 3) hc d_Mo_program_7 rfl ?_
  refine fm_callS (av := [.int v, .int (nI 0), .int (nI 3)]) (rest := []) (y := y_Mo_within) (bytes := b_Mo_within) hc fm_T0_good (fm_EX_st b x) hex q_1049 q_13 q_1047 q_1048 pd_Mo_within (c_Mo_within_no (wi_no4 hv)) ⟨rfl, rfl, Nat.le_of_ble_eq_true rfl, Nat.le_of_ble_eq_true rfl⟩ ⟨Nat.le_of_ble_eq_true rfl, Nat.le_of_ble_eq_true rfl⟩ d_Mo_program_8 (Nat.le_of_ble_eq_true rfl) (fun r n2 M2 hp => ?_)
  obtain ⟨rfl, hq1, hq2⟩ := hp
  replace hq1 := hq1.symm
  replace hq2 := hq2.symm
  subst hq1 hq2
  refine fm_cnt (z' := (0, 0)) rfl (fm_st (st' := [.int (nI 0)]) rfl ?_)
  refine fm_if_eq (tgt := 46) hc d_Mo_program_11 rfl (fun _ => ?_) (fun g => absurd rfl g)
  refine fm_iconst (v := (-1)) hc d_Mo_program_46 rfl ?_
  exact fm_iret hc hr d_Mo_program_47 (Nat.le_refl _) (Nat.le_refl _) ⟨rfl, rfl, rfl⟩
theorem r_program_bad2 {l : Launch} {b : Nat} {x : Nat → Nat} {D : va_G} {dA : Nat → ClassId} {v w : Int32} {y : Int64} {n : Nat} {M : fm_M} (hn : 629 ≤ n) (hR : fm_RP M) (hv : fm_in 4 v) (hw : ¬ fm_wi w (nI 1) (nI 8)) : Met l y_Mo_program (Cond.code y_Mo_program b_Mo_program 6 (some .int) :: fm_T0) ({ frames := 1, cells := 0, slots := 0, locals := 22 }) (fm_Pc fm_lay fm_nf fm_fk fm_cl b x D dA (fm_tys dA) (fm_EX b x) false [.ref 586, .int v, .long y, .int w] n M) (fm_Qc fm_lay fm_nf fm_fk fm_cl b x D dA (fun r n' M' => r = some (.int ((-1))) ∧ n' = n ∧ M' = fm_put1 M 586 0 (nI 0))) 0 0 (fm_A b) := by
  refine fm_enter (by decide) (Nat.le_of_ble_eq_true rfl) ?_
  intro p e s m args below meth c hc hr hnm hex htg
  refine fm_aload_n hc d_Mo_program_0 rfl rfl ?_
  refine fm_iconst (v := nI 0) hc d_Mo_program_1 rfl ?_
  refine fm_putI (k := 0) (v := nI 0) hc K_Mo d_Mo_program_2 q_885 rfl (by decide) (by omega) (by decide) (by decide) (by decide) rfl rfl rfl rfl ?_
  refine fm_iload_n hc d_Mo_program_5 rfl rfl ?_
  refine fm_iconst (v := nI 0) hc d_Mo_program_6 rfl ?_
  refine fm_iconst (v := nI 3) hc d_Mo_program_7 rfl ?_
  refine fm_callS (av := [.int v, .int (nI 0), .int (nI 3)]) (rest := []) (y := y_Mo_within) (bytes := b_Mo_within) hc fm_T0_good (fm_EX_st b x) hex q_1049 q_13 q_1047 q_1048 pd_Mo_within (c_Mo_within_ok (wi_of4 hv)) ⟨rfl, rfl, Nat.le_of_ble_eq_true rfl, Nat.le_of_ble_eq_true rfl⟩ ⟨Nat.le_of_ble_eq_true rfl, Nat.le_of_ble_eq_true rfl⟩ d_Mo_program_8 (Nat.le_of_ble_eq_true rfl) (fun r n2 M2 hp => ?_)
  obtain ⟨rfl, hq1, hq2⟩ := hp
  replace hq1 := hq1.symm
  replace hq2 := hq2.symm
  subst hq1 hq2
  refine fm_cnt (z' := (0, 0)) rfl (fm_st (st' := [.int (nI 1)]) rfl ?_)
  refine fm_if_eq (tgt := 46) hc d_Mo_program_11 rfl (fun g => absurd g (by decide)) (fun _ => ?_)
  refine fm_iload hc d_Mo_program_14 rfl ?_
  refine fm_iconst (v := nI 1) hc d_Mo_program_16 rfl ?_
  refine fm_bipush (v := nI 8) hc d_Mo_program_17 rfl ?_
  refine fm_callS (av := [.int w, .int (nI 1), .int (nI 8)]) (rest := []) (y := y_Mo_within) (bytes := b_Mo_within) hc fm_T0_good (fm_EX_st b x) hex q_1049 q_13 q_1047 q_1048 pd_Mo_within (c_Mo_within_no hw) ⟨rfl, rfl, Nat.le_of_ble_eq_true rfl, Nat.le_of_ble_eq_true rfl⟩ ⟨Nat.le_of_ble_eq_true rfl, Nat.le_of_ble_eq_true rfl⟩ d_Mo_program_19 (Nat.le_of_ble_eq_true rfl) (fun r n2 M2 hp => ?_)
  obtain ⟨rfl, hq1, hq2⟩ := hp
  replace hq1 := hq1.symm
  replace hq2 := hq2.symm
  subst hq1 hq2
  refine fm_cnt (z' := (0, 0)) rfl (fm_st (st' := [.int (nI 0)]) rfl ?_)
  refine fm_if_eq (tgt := 46) hc d_Mo_program_22 rfl (fun _ => ?_) (fun g => absurd rfl g)
  refine fm_iconst (v := (-1)) hc d_Mo_program_46 rfl ?_
  exact fm_iret hc hr d_Mo_program_47 (Nat.le_refl _) (Nat.le_refl _) ⟨rfl, rfl, rfl⟩
theorem r_program_late {l : Launch} {b : Nat} {x : Nat → Nat} {D : va_G} {dA : Nat → ClassId} {v w : Int32} {y : Int64} {n : Nat} {M : fm_M} (hn : 629 ≤ n) (hR : fm_RP M) (hv : fm_in 4 v) (hw : fm_wi w (nI 1) (nI 8)) (hL : 0 < M.1 586 4) : Met l y_Mo_program (Cond.code y_Mo_program b_Mo_program 6 (some .int) :: fm_T0) ({ frames := 1, cells := 0, slots := 0, locals := 22 }) (fm_Pc fm_lay fm_nf fm_fk fm_cl b x D dA (fm_tys dA) (fm_EX b x) false [.ref 586, .int v, .long y, .int w] n M) (fm_Qc fm_lay fm_nf fm_fk fm_cl b x D dA (fun r n' M' => r = some (.int ((-1))) ∧ n' = n ∧ M' = fm_put1 M 586 0 (nI 0))) 0 0 (fm_A b) := by
  refine fm_enter (by decide) (Nat.le_of_ble_eq_true rfl) ?_
  intro p e s m args below meth c hc hr hnm hex htg
  refine fm_aload_n hc d_Mo_program_0 rfl rfl ?_
  refine fm_iconst (v := nI 0) hc d_Mo_program_1 rfl ?_
  refine fm_putI (k := 0) (v := nI 0) hc K_Mo d_Mo_program_2 q_885 rfl (by decide) (by omega) (by decide) (by decide) (by decide) rfl rfl rfl rfl ?_
  refine fm_iload_n hc d_Mo_program_5 rfl rfl ?_
  refine fm_iconst (v := nI 0) hc d_Mo_program_6 rfl ?_
  refine fm_iconst (v := nI 3) hc d_Mo_program_7 rfl ?_
  refine fm_callS (av := [.int v, .int (nI 0), .int (nI 3)]) (rest := []) (y := y_Mo_within) (bytes := b_Mo_within) hc fm_T0_good (fm_EX_st b x) hex q_1049 q_13 q_1047 q_1048 pd_Mo_within (c_Mo_within_ok (wi_of4 hv)) ⟨rfl, rfl, Nat.le_of_ble_eq_true rfl, Nat.le_of_ble_eq_true rfl⟩ ⟨Nat.le_of_ble_eq_true rfl, Nat.le_of_ble_eq_true rfl⟩ d_Mo_program_8 (Nat.le_of_ble_eq_true rfl) (fun r n2 M2 hp => ?_)
  obtain ⟨rfl, hq1, hq2⟩ := hp
  replace hq1 := hq1.symm
  replace hq2 := hq2.symm
  subst hq1 hq2
  refine fm_cnt (z' := (0, 0)) rfl (fm_st (st' := [.int (nI 1)]) rfl ?_)
  refine fm_if_eq (tgt := 46) hc d_Mo_program_11 rfl (fun g => absurd g (by decide)) (fun _ => ?_)
  refine fm_iload hc d_Mo_program_14 rfl ?_
  refine fm_iconst (v := nI 1) hc d_Mo_program_16 rfl ?_
  refine fm_bipush (v := nI 8) hc d_Mo_program_17 rfl ?_
  refine fm_callS (av := [.int w, .int (nI 1), .int (nI 8)]) (rest := []) (y := y_Mo_within) (bytes := b_Mo_within) hc fm_T0_good (fm_EX_st b x) hex q_1049 q_13 q_1047 q_1048 pd_Mo_within (c_Mo_within_ok hw) ⟨rfl, rfl, Nat.le_of_ble_eq_true rfl, Nat.le_of_ble_eq_true rfl⟩ ⟨Nat.le_of_ble_eq_true rfl, Nat.le_of_ble_eq_true rfl⟩ d_Mo_program_19 (Nat.le_of_ble_eq_true rfl) (fun r n2 M2 hp => ?_)
  obtain ⟨rfl, hq1, hq2⟩ := hp
  replace hq1 := hq1.symm
  replace hq2 := hq2.symm
  subst hq1 hq2
  refine fm_cnt (z' := (0, 0)) rfl (fm_st (st' := [.int (nI 1)]) rfl ?_)
  refine fm_if_eq (tgt := 46) hc d_Mo_program_22 rfl (fun g => absurd g (by decide)) (fun _ => ?_)
  refine fm_aload_n hc d_Mo_program_25 rfl rfl ?_
  refine fm_getI (k := 4) hc K_Mo d_Mo_program_26 q_889 rfl (by decide) (by omega) (by decide) (by decide) (by decide) rfl ?_
  refine fm_if_gt (tgt := 46) hc d_Mo_program_29 rfl (fun _ => ?_) (fun g => absurd hL g)
  refine fm_iconst (v := (-1)) hc d_Mo_program_46 rfl ?_
  exact fm_iret hc hr d_Mo_program_47 (Nat.le_refl _) (Nat.le_refl _) ⟨rfl, rfl, rfl⟩
theorem r_program_full {l : Launch} {b : Nat} {x : Nat → Nat} {D : va_G} {dA : Nat → ClassId} {p0 n k0 c0 : Nat} {y : Int64} {M : fm_M} (hn : 629 ≤ n) (hR : fm_RP M) (hp : p0 < 4) (h1 : 1 ≤ c0) (h8 : c0 ≤ 8) (hL : ¬ 0 < M.1 586 4) (hk0 : M.1 588 p0 = nI k0) (hk : k0 ≤ 48) (hc0 : 48 < k0 + c0) : Met l y_Mo_program (Cond.code y_Mo_program b_Mo_program 6 (some .int) :: fm_T0) ({ frames := 1, cells := 0, slots := 0, locals := 22 }) (fm_Pc fm_lay fm_nf fm_fk fm_cl b x D dA (fm_tys dA) (fm_EX b x) false [.ref 586, .int (nI p0), .long y, .int (nI c0)] n M) (fm_Qc fm_lay fm_nf fm_fk fm_cl b x D dA (fun r n' M' => r = some (.int (-1)) ∧ n' = n ∧ M' = fm_put1 M 586 0 (nI 0))) 0 0 (fm_A b) := by
  refine fm_enter (by decide) (Nat.le_of_ble_eq_true rfl) ?_
  intro p e s m args below meth c hc hr hnm hex htg
  refine fm_aload_n hc d_Mo_program_0 rfl rfl ?_
  refine fm_iconst (v := nI 0) hc d_Mo_program_1 rfl ?_
  refine fm_putI (k := 0) (v := nI 0) hc K_Mo d_Mo_program_2 q_885 rfl (by decide) (by omega) (by decide) (by decide) (by decide) rfl rfl rfl rfl ?_
  refine fm_iload_n hc d_Mo_program_5 rfl rfl ?_
  refine fm_iconst (v := nI 0) hc d_Mo_program_6 rfl ?_
  refine fm_iconst (v := nI 3) hc d_Mo_program_7 rfl ?_
  refine fm_callS (av := [.int (nI p0), .int (nI 0), .int (nI 3)]) (rest := []) (y := y_Mo_within) (bytes := b_Mo_within) hc fm_T0_good (fm_EX_st b x) hex q_1049 q_13 q_1047 q_1048 pd_Mo_within (c_Mo_within_ok (wi_of4 (in4_of hp))) ⟨rfl, rfl, Nat.le_of_ble_eq_true rfl, Nat.le_of_ble_eq_true rfl⟩ ⟨Nat.le_of_ble_eq_true rfl, Nat.le_of_ble_eq_true rfl⟩ d_Mo_program_8 (Nat.le_of_ble_eq_true rfl) (fun r n2 M2 hp => ?_)
  obtain ⟨rfl, hq1, hq2⟩ := hp
  replace hq1 := hq1.symm
  replace hq2 := hq2.symm
  subst hq1 hq2
  refine fm_cnt (z' := (0, 0)) rfl (fm_st (st' := [.int (nI 1)]) rfl ?_)
  refine fm_if_eq (tgt := 46) hc d_Mo_program_11 rfl (fun g => absurd g (by decide)) (fun _ => ?_)
  refine fm_iload hc d_Mo_program_14 rfl ?_
  refine fm_iconst (v := nI 1) hc d_Mo_program_16 rfl ?_
  refine fm_bipush (v := nI 8) hc d_Mo_program_17 rfl ?_
  refine fm_callS (av := [.int (nI c0), .int (nI 1), .int (nI 8)]) (rest := []) (y := y_Mo_within) (bytes := b_Mo_within) hc fm_T0_good (fm_EX_st b x) hex q_1049 q_13 q_1047 q_1048 pd_Mo_within (c_Mo_within_ok (wi_18 h1 h8)) ⟨rfl, rfl, Nat.le_of_ble_eq_true rfl, Nat.le_of_ble_eq_true rfl⟩ ⟨Nat.le_of_ble_eq_true rfl, Nat.le_of_ble_eq_true rfl⟩ d_Mo_program_19 (Nat.le_of_ble_eq_true rfl) (fun r n2 M2 hp => ?_)
  obtain ⟨rfl, hq1, hq2⟩ := hp
  replace hq1 := hq1.symm
  replace hq2 := hq2.symm
  subst hq1 hq2
  refine fm_cnt (z' := (0, 0)) rfl (fm_st (st' := [.int (nI 1)]) rfl ?_)
  refine fm_if_eq (tgt := 46) hc d_Mo_program_22 rfl (fun g => absurd g (by decide)) (fun _ => ?_)
  refine fm_aload_n hc d_Mo_program_25 rfl rfl ?_
  refine fm_getI (k := 4) hc K_Mo d_Mo_program_26 q_889 rfl (by decide) (by omega) (by decide) (by decide) (by decide) rfl ?_
  refine fm_if_gt (tgt := 46) hc d_Mo_program_29 rfl (fun g => absurd g hL) (fun _ => ?_)
  refine fm_aload_n hc d_Mo_program_32 rfl rfl ?_
  refine fm_getR (k := 2) (q := 588) hc K_Mo d_Mo_program_33 q_887 rfl (by decide) (by omega) (by decide) (by decide) (by decide) rfl (rp_lengths hR) ?_
  refine fm_iload_n hc d_Mo_program_36 rfl rfl ?_
  refine fm_iald (j := p0) (len := 4) hc 0 d_Mo_program_37 (by decide) (by omega) (by decide) rfl (by omega) (by decide) ?_
  refine fm_top (congrArg Value.int (show _ = nI k0 from hk0)) ?_
  refine fm_iload hc d_Mo_program_38 rfl ?_
  refine fm_iadd hc d_Mo_program_40 ?_
  refine fm_top (congrArg Value.int (nI_add k0 c0)) ?_
  refine fm_bipush (v := nI 48) hc d_Mo_program_41 rfl ?_
  refine fm_icmp_le (tgt := 48) hc d_Mo_program_43 rfl (fun g => absurd g (over48 hc0 (by omega))) (fun _ => ?_)
  refine fm_iconst (v := (-1)) hc d_Mo_program_46 rfl ?_
  exact fm_iret hc hr d_Mo_program_47 (Nat.le_refl _) (Nat.le_refl _) ⟨rfl, rfl, rfl⟩
