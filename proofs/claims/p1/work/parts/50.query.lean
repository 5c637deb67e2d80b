/-! table and slot -/
theorem ap_eight {i : Nat} (h : i < 8) : i = 0 ∨ i = 1 ∨ i = 2 ∨ i = 3 ∨ i = 4 ∨ i = 5 ∨ i = 6 ∨ i = 7 := by omega
theorem in8_of {i : Nat} (h : i < 8) : fm_in 8 (nI i) := by
  rcases ap_eight h with rfl | rfl | rfl | rfl | rfl | rfl | rfl | rfl <;> exact ⟨by decide, by decide⟩
theorem in8_to {v : Int32} (h : fm_in 8 v) : ∃ j, j < 8 ∧ v = nI j := by
  obtain ⟨h1, h2⟩ := h
  have e0 : (0 : Int32).toInt = 0 := by decide
  rw [Int32.lt_iff_toInt_lt] at h1
  refine ⟨v.toInt.toNat, ?_, ?_⟩
  · have e1 : (nI 8).toInt = 8 := by decide
    rw [Int32.le_iff_toInt_le, e1] at h2
    omega
  · have h3 : v = Int32.ofInt v.toInt := (Int32.ofInt_toInt v).symm
    have h4 : v.toInt = (v.toInt.toNat : Int) := by omega
    exact h3.trans ((congrArg Int32.ofInt h4).trans (by first | rfl | exact Int32.ofInt_eq_ofNat | simp [nI]))
theorem wi_of8 {v : Int32} (h : fm_in 8 v) : fm_wi v (nI 0) (nI 7) := by
  obtain ⟨j, hj, rfl⟩ := in8_to h
  rcases ap_eight hj with rfl | rfl | rfl | rfl | rfl | rfl | rfl | rfl <;> exact ⟨by decide, by decide⟩
theorem wi_no8 {v : Int32} (h : ¬ fm_in 8 v) : ¬ fm_wi v (nI 0) (nI 7) := by
  intro g
  refine h ⟨g.1, fun g2 => g.2 ?_⟩
  have e4 : (nI 8).toInt = 8 := by decide
  have e3 : (nI 7).toInt = 7 := by decide
  rw [Int32.le_iff_toInt_le, e4] at g2
  rw [Int32.lt_iff_toInt_lt, e3]
  omega
theorem ly_tab {j : Nat} (hj : j < 4) : fm_lay (11 + j) = (100, 8) := by
  rcases ap_four hj with rfl | rfl | rfl | rfl <;> rfl
theorem ap_tab {M : fm_M} (h : fm_AP M) {j : Nat} (hj : j < 4) : M.2.2 10 j = some (11 + j) := by
  rcases ap_four hj with rfl | rfl | rfl | rfl
  · exact h (10, 0, 11) (List.mem_of_getElem? (i := 7) rfl)
  · exact h (10, 1, 12) (List.mem_of_getElem? (i := 8) rfl)
  · exact h (10, 2, 13) (List.mem_of_getElem? (i := 9) rfl)
  · exact h (10, 3, 14) (List.mem_of_getElem? (i := 10) rfl)
theorem c_table_bad1 {l : Launch} {b : Nat} {x : Nat → Nat} {D : va_G} {dA : Nat → ClassId} {v w u : Int32} {n : Nat} {M : fm_M} (hn : 586 ≤ n) (hA : fm_AP M) (hv : ¬ fm_in 4 v) : Met l y_An_table (Cond.code y_An_table b_An_table 4 (some .boolean) :: fm_T0) ({ frames := 1, cells := 0, slots := 0, locals := 20 }) (fm_Pc fm_lay fm_nf fm_fk fm_cl b x D dA (fm_tys dA) (fm_EX b x) false [.ref 8, .int v, .int w, .int u] n M) (fm_Qc fm_lay fm_nf fm_fk fm_cl b x D dA (fun r n' M' => r = some (.int (nI 0)) ∧ n' = n ∧ M' = M)) 0 0 (fm_A b) := by
  refine fm_enter (by decide) (Nat.le_of_ble_eq_true rfl) ?_
  intro p e s m args below meth c hc hr hnm hex htg
  refine fm_iload_n hc d_An_table_0 rfl rfl ?_
  refine fm_callS (av := [.int v]) (rest := []) (y := y_An_isHost) (bytes := b_An_isHost) hc fm_T0_good (fm_EX_st b x) hex q_397 q_1 q_395 q_396 pd_An_isHost (c_An_isHost_no hv) ⟨rfl, rfl, Nat.le_of_ble_eq_true rfl, Nat.le_of_ble_eq_true rfl⟩ ⟨Nat.le_of_ble_eq_true rfl, Nat.le_of_ble_eq_true rfl⟩ d_An_table_1 (Nat.le_of_ble_eq_true rfl) (fun r n2 M2 hp => ?_)
  obtain ⟨rfl, rfl, rfl⟩ := hp
  refine fm_cnt (z' := (0, 0)) rfl (fm_st (st' := [.int (nI 0)]) rfl ?_)
  refine fm_if_eq (tgt := 24) hc d_An_table_4 rfl (fun _ => ?_) (fun g => absurd rfl g)
  refine fm_iconst (v := nI 0) hc d_An_table_24 rfl ?_
  exact fm_zret (ty := .boolean) hc hr (by first | rfl | decide) d_An_table_25 (Nat.le_refl _) (Nat.le_refl _) ⟨rfl, rfl, rfl⟩
theorem c_table_bad2 {l : Launch} {b : Nat} {x : Nat → Nat} {D : va_G} {dA : Nat → ClassId} {v w u : Int32} {n : Nat} {M : fm_M} (hn : 586 ≤ n) (hA : fm_AP M) (hv : fm_in 4 v) (hw : w < 0) : Met l y_An_table (Cond.code y_An_table b_An_table 4 (some .boolean) :: fm_T0) ({ frames := 1, cells := 0, slots := 0, locals := 20 }) (fm_Pc fm_lay fm_nf fm_fk fm_cl b x D dA (fm_tys dA) (fm_EX b x) false [.ref 8, .int v, .int w, .int u] n M) (fm_Qc fm_lay fm_nf fm_fk fm_cl b x D dA (fun r n' M' => r = some (.int (nI 0)) ∧ n' = n ∧ M' = M)) 0 0 (fm_A b) := by
  refine fm_enter (by decide) (Nat.le_of_ble_eq_true rfl) ?_
  intro p e s m args below meth c hc hr hnm hex htg
  refine fm_iload_n hc d_An_table_0 rfl rfl ?_
  refine fm_callS (av := [.int v]) (rest := []) (y := y_An_isHost) (bytes := b_An_isHost) hc fm_T0_good (fm_EX_st b x) hex q_397 q_1 q_395 q_396 pd_An_isHost (c_An_isHost_ok hv) ⟨rfl, rfl, Nat.le_of_ble_eq_true rfl, Nat.le_of_ble_eq_true rfl⟩ ⟨Nat.le_of_ble_eq_true rfl, Nat.le_of_ble_eq_true rfl⟩ d_An_table_1 (Nat.le_of_ble_eq_true rfl) (fun r n2 M2 hp => ?_)
  obtain ⟨rfl, rfl, rfl⟩ := hp
  refine fm_cnt (z' := (0, 0)) rfl (fm_st (st' := [.int (nI 1)]) rfl ?_)
  refine fm_if_eq (tgt := 24) hc d_An_table_4 rfl (fun g => absurd g (by decide)) (fun _ => ?_)
  refine fm_iload_n hc d_An_table_7 rfl rfl ?_
  refine fm_if_lt (tgt := 24) hc d_An_table_8 rfl (fun _ => ?_) (fun g => absurd hw g)
  refine fm_iconst (v := nI 0) hc d_An_table_24 rfl ?_
  exact fm_zret (ty := .boolean) hc hr (by first | rfl | decide) d_An_table_25 (Nat.le_refl _) (Nat.le_refl _) ⟨rfl, rfl, rfl⟩
theorem c_table_bad3 {l : Launch} {b : Nat} {x : Nat → Nat} {D : va_G} {dA : Nat → ClassId} {v w u : Int32} {n : Nat} {M : fm_M} (hn : 586 ≤ n) (hA : fm_AP M) (hv : fm_in 4 v) (hw : ¬ w < 0) (hw2 : nI 8 ≤ w) : Met l y_An_table (Cond.code y_An_table b_An_table 4 (some .boolean) :: fm_T0) ({ frames := 1, cells := 0, slots := 0, locals := 20 }) (fm_Pc fm_lay fm_nf fm_fk fm_cl b x D dA (fm_tys dA) (fm_EX b x) false [.ref 8, .int v, .int w, .int u] n M) (fm_Qc fm_lay fm_nf fm_fk fm_cl b x D dA (fun r n' M' => r = some (.int (nI 0)) ∧ n' = n ∧ M' = M)) 0 0 (fm_A b) := by
  refine fm_enter (by decide) (Nat.le_of_ble_eq_true rfl) ?_
  intro p e s m args below meth c hc hr hnm hex htg
  refine fm_iload_n hc d_An_table_0 rfl rfl ?_
  refine fm_callS (av := [.int v]) (rest := []) (y := y_An_isHost) (bytes := b_An_isHost) hc fm_T0_good (fm_EX_st b x) hex q_397 q_1 q_395 q_396 pd_An_isHost (c_An_isHost_ok hv) ⟨rfl, rfl, Nat.le_of_ble_eq_true rfl, Nat.le_of_ble_eq_true rfl⟩ ⟨Nat.le_of_ble_eq_true rfl, Nat.le_of_ble_eq_true rfl⟩ d_An_table_1 (Nat.le_of_ble_eq_true rfl) (fun r n2 M2 hp => ?_)
  obtain ⟨rfl, rfl, rfl⟩ := hp
  refine fm_cnt (z' := (0, 0)) rfl (fm_st (st' := [.int (nI 1)]) rfl ?_)
  refine fm_if_eq (tgt := 24) hc d_An_table_4 rfl (fun g => absurd g (by decide)) (fun _ => ?_)
  refine fm_iload_n hc d_An_table_7 rfl rfl ?_
  refine fm_if_lt (tgt := 24) hc d_An_table_8 rfl (fun g => absurd g hw) (fun _ => ?_)
  refine fm_iload_n hc d_An_table_11 rfl rfl ?_
  refine fm_bipush (v := nI 8) hc d_An_table_12 rfl ?_
  refine fm_icmp_ge (tgt := 24) hc d_An_table_14 rfl (fun _ => ?_) (fun g => absurd hw2 g)
  refine fm_iconst (v := nI 0) hc d_An_table_24 rfl ?_
  exact fm_zret (ty := .boolean) hc hr (by first | rfl | decide) d_An_table_25 (Nat.le_refl _) (Nat.le_refl _) ⟨rfl, rfl, rfl⟩
theorem c_table_late {l : Launch} {b : Nat} {x : Nat → Nat} {D : va_G} {dA : Nat → ClassId} {j i : Nat} {u : Int32} {n : Nat} {M : fm_M} (hn : 586 ≤ n) (hA : fm_AP M) (hj : j < 4) (hi : i < 8) (hL : ¬ M.1 8 7 ≤ 0) : Met l y_An_table (Cond.code y_An_table b_An_table 4 (some .boolean) :: fm_T0) ({ frames := 1, cells := 0, slots := 0, locals := 20 }) (fm_Pc fm_lay fm_nf fm_fk fm_cl b x D dA (fm_tys dA) (fm_EX b x) false [.ref 8, .int (nI j), .int (nI i), .int u] n M) (fm_Qc fm_lay fm_nf fm_fk fm_cl b x D dA (fun r n' M' => r = some (.int (nI 0)) ∧ n' = n ∧ M' = M)) 0 0 (fm_A b) := by
  refine fm_enter (by decide) (Nat.le_of_ble_eq_true rfl) ?_
  intro p e s m args below meth c hc hr hnm hex htg
  refine fm_iload_n hc d_An_table_0 rfl rfl ?_
  refine fm_callS (av := [.int (nI j)]) (rest := []) (y := y_An_isHost) (bytes := b_An_isHost) hc fm_T0_good (fm_EX_st b x) hex q_397 q_1 q_395 q_396 pd_An_isHost (c_An_isHost_ok (in4_of hj)) ⟨rfl, rfl, Nat.le_of_ble_eq_true rfl, Nat.le_of_ble_eq_true rfl⟩ ⟨Nat.le_of_ble_eq_true rfl, Nat.le_of_ble_eq_true rfl⟩ d_An_table_1 (Nat.le_of_ble_eq_true rfl) (fun r n2 M2 hp => ?_)
  obtain ⟨rfl, rfl, rfl⟩ := hp
  refine fm_cnt (z' := (0, 0)) rfl (fm_st (st' := [.int (nI 1)]) rfl ?_)
  refine fm_if_eq (tgt := 24) hc d_An_table_4 rfl (fun g => absurd g (by decide)) (fun _ => ?_)
  refine fm_iload_n hc d_An_table_7 rfl rfl ?_
  refine fm_if_lt (tgt := 24) hc d_An_table_8 rfl (fun g => absurd g (in8_of hi).1) (fun _ => ?_)
  refine fm_iload_n hc d_An_table_11 rfl rfl ?_
  refine fm_bipush (v := nI 8) hc d_An_table_12 rfl ?_
  refine fm_icmp_ge (tgt := 24) hc d_An_table_14 rfl (fun g => absurd g (in8_of hi).2) (fun _ => ?_)
  refine fm_aload_n hc d_An_table_17 rfl rfl ?_
  refine fm_getI (k := 7) hc K_An d_An_table_18 q_362 rfl (by decide) (by omega) (by decide) (by decide) (by decide) rfl ?_
  refine fm_if_le (tgt := 26) hc d_An_table_21 rfl (fun g => absurd g hL) (fun _ => ?_)
  refine fm_iconst (v := nI 0) hc d_An_table_24 rfl ?_
  exact fm_zret (ty := .boolean) hc hr (by first | rfl | decide) d_An_table_25 (Nat.le_refl _) (Nat.le_refl _) ⟨rfl, rfl, rfl⟩
theorem c_table_ok {l : Launch} {b : Nat} {x : Nat → Nat} {D : va_G} {dA : Nat → ClassId} {j i : Nat} {u : Int32} {n : Nat} {M : fm_M} (hn : 586 ≤ n) (hA : fm_AP M) (hj : j < 4) (hi : i < 8) (hL : M.1 8 7 ≤ 0) : Met l y_An_table (Cond.code y_An_table b_An_table 4 (some .boolean) :: fm_T0) ({ frames := 1, cells := 0, slots := 0, locals := 20 }) (fm_Pc fm_lay fm_nf fm_fk fm_cl b x D dA (fm_tys dA) (fm_EX b x) false [.ref 8, .int (nI j), .int (nI i), .int u] n M) (fm_Qc fm_lay fm_nf fm_fk fm_cl b x D dA (fun r n' M' => r = some (.int (nI 1)) ∧ n' = n ∧ M' = fm_put1 M (11 + j) i u)) 0 0 (fm_A b) := by
  refine fm_enter (by decide) (Nat.le_of_ble_eq_true rfl) ?_
  intro p e s m args below meth c hc hr hnm hex htg
  refine fm_iload_n hc d_An_table_0 rfl rfl ?_
  refine fm_callS (av := [.int (nI j)]) (rest := []) (y := y_An_isHost) (bytes := b_An_isHost) hc fm_T0_good (fm_EX_st b x) hex q_397 q_1 q_395 q_396 pd_An_isHost (c_An_isHost_ok (in4_of hj)) ⟨rfl, rfl, Nat.le_of_ble_eq_true rfl, Nat.le_of_ble_eq_true rfl⟩ ⟨Nat.le_of_ble_eq_true rfl, Nat.le_of_ble_eq_true rfl⟩ d_An_table_1 (Nat.le_of_ble_eq_true rfl) (fun r n2 M2 hp => ?_)
  obtain ⟨rfl, rfl, rfl⟩ := hp
  refine fm_cnt (z' := (0, 0)) rfl (fm_st (st' := [.int (nI 1)]) rfl ?_)
  refine fm_if_eq (tgt := 24) hc d_An_table_4 rfl (fun g => absurd g (by decide)) (fun _ => ?_)
  refine fm_iload_n hc d_An_table_7 rfl rfl ?_
  refine fm_if_lt (tgt := 24) hc d_An_table_8 rfl (fun g => absurd g (in8_of hi).1) (fun _ => ?_)
  refine fm_iload_n hc d_An_table_11 rfl rfl ?_
  refine fm_bipush (v := nI 8) hc d_An_table_12 rfl ?_
  refine fm_icmp_ge (tgt := 24) hc d_An_table_14 rfl (fun g => absurd g (in8_of hi).2) (fun _ => ?_)
  refine fm_aload_n hc d_An_table_17 rfl rfl ?_
  refine fm_getI (k := 7) hc K_An d_An_table_18 q_362 rfl (by decide) (by omega) (by decide) (by decide) (by decide) rfl ?_
  refine fm_if_le (tgt := 26) hc d_An_table_21 rfl (fun _ => ?_) (fun g => absurd hL g)
  refine fm_aload_n hc d_An_table_26 rfl rfl ?_
  refine fm_getR (k := 1) (q := 10) hc K_An d_An_table_27 q_356 rfl (by decide) (by omega) (by decide) (by decide) (by decide) rfl (ap_1 hA) ?_
  refine fm_iload_n hc d_An_table_30 rfl rfl ?_
  refine fm_aaldA (q := 11 + j) (j := j) (len := 4) hc 8 d_An_table_31 (by decide) (by omega) (by decide) (by decide) rfl (by omega) (by decide) (ap_tab hA hj) ?_
  refine fm_iload_n hc d_An_table_32 rfl rfl ?_
  refine fm_iload_n hc d_An_table_33 rfl rfl ?_
  refine fm_iast (j := i) (len := 8) (v := u) hc 0 d_An_table_34 (by omega) (by omega) (ly_tab hj) rfl (by omega) (by decide) ?_
  refine fm_iconst (v := nI 1) hc d_An_table_35 rfl ?_
  exact fm_zret (ty := .boolean) hc hr (by first | rfl | decide) d_An_table_36 (Nat.le_refl _) (Nat.le_refl _) ⟨rfl, rfl, rfl⟩
theorem r_table_bad1 {l : Launch} {b : Nat} {x : Nat → Nat} {D : va_G} {dA : Nat → ClassId} {v w u : Int32} {n : Nat} {M : fm_M} (hn : 629 ≤ n) (hR : fm_RP M) (hv : ¬ fm_in 4 v) : Met l y_Mo_table (Cond.code y_Mo_table b_Mo_table 4 (some .boolean) :: fm_T0) ({ frames := 1, cells := 0, slots := 0, locals := 22 }) (fm_Pc fm_lay fm_nf fm_fk fm_cl b x D dA (fm_tys dA) (fm_EX b x) false [.ref 586, .int v, .int w, .int u] n M) (fm_Qc fm_lay fm_nf fm_fk fm_cl b x D dA (fun r n' M' => r = some (.int (nI 0)) ∧ n' = n ∧ M' = fm_put1 M 586 0 (nI 0))) 0 0 (fm_A b) := by
  refine fm_enter (by decide) (Nat.le_of_ble_eq_true rfl) ?_
  intro p e s m args below meth c hc hr hnm hex htg
  refine fm_aload_n hc d_Mo_table_0 rfl rfl ?_
  refine fm_iconst (v := nI 0) hc d_Mo_table_1 rfl ?_
  refine fm_putI (k := 0) (v := nI 0) hc K_Mo d_Mo_table_2 q_885 rfl (by decide) (by omega) (by decide) (by decide) (by decide) rfl rfl rfl rfl ?_
  refine fm_iload_n hc d_Mo_table_5 rfl rfl ?_
  refine fm_iconst (v := nI 0) hc d_Mo_table_6 rfl ?_
  refine fm_iconst (v := nI 3) hc d_Mo_table_7 rfl ?_
  refine fm_callS (av := [.int v, .int (nI 0), .int (nI 3)]) (rest := []) (y := y_Mo_within) (bytes := b_Mo_within) hc fm_T0_good (fm_EX_st b x) hex q_1049 q_13 q_1047 q_1048 pd_Mo_within (c_Mo_within_no (wi_no4 hv)) ⟨rfl, rfl, Nat.le_of_ble_eq_true rfl, Nat.le_of_ble_eq_true rfl⟩ ⟨Nat.le_of_ble_eq_true rfl, Nat.le_of_ble_eq_true rfl⟩ d_Mo_table_8 (Nat.le_of_ble_eq_true rfl) (fun r n2 M2 hp => ?_)
  obtain ⟨rfl, rfl, rfl⟩ := hp
  refine fm_cnt (z' := (0, 0)) rfl (fm_st (st' := [.int (nI 0)]) rfl ?_)
  refine fm_if_eq (tgt := 31) hc d_Mo_table_11 rfl (fun _ => ?_) (fun g => absurd rfl g)
  refine fm_iconst (v := nI 0) hc d_Mo_table_31 rfl ?_
  exact fm_zret (ty := .boolean) hc hr (by first | rfl | decide) d_Mo_table_32 (Nat.le_refl _) (Nat.le_refl _) ⟨rfl, rfl, rfl⟩
theorem r_table_bad2 {l : Launch} {b : Nat} {x : Nat → Nat} {D : va_G} {dA : Nat → ClassId} {v w u : Int32} {n : Nat} {M : fm_M} (hn : 629 ≤ n) (hR : fm_RP M) (hv : fm_in 4 v) (hw : ¬ fm_in 8 w) : Met l y_Mo_table (Cond.code y_Mo_table b_Mo_table 4 (some .boolean) :: fm_T0) ({ frames := 1, cells := 0, slots := 0, locals := 22 }) (fm_Pc fm_lay fm_nf fm_fk fm_cl b x D dA (fm_tys dA) (fm_EX b x) false [.ref 586, .int v, .int w, .int u] n M) (fm_Qc fm_lay fm_nf fm_fk fm_cl b x D dA (fun r n' M' => r = some (.int (nI 0)) ∧ n' = n ∧ M' = fm_put1 M 586 0 (nI 0))) 0 0 (fm_A b) := by
  refine fm_enter (by decide) (Nat.le_of_ble_eq_true rfl) ?_
  intro p e s m args below meth c hc hr hnm hex htg
  refine fm_aload_n hc d_Mo_table_0 rfl rfl ?_
  refine fm_iconst (v := nI 0) hc d_Mo_table_1 rfl ?_
  refine fm_putI (k := 0) (v := nI 0) hc K_Mo d_Mo_table_2 q_885 rfl (by decide) (by omega) (by decide) (by decide) (by decide) rfl rfl rfl rfl ?_
  refine fm_iload_n hc d_Mo_table_5 rfl rfl ?_
  refine fm_iconst (v := nI 0) hc d_Mo_table_6 rfl ?_
  refine fm_iconst (v := nI 3) hc d_Mo_table_7 rfl ?_
  refine fm_callS (av := [.int v, .int (nI 0), .int (nI 3)]) (rest := []) (y := y_Mo_within) (bytes := b_Mo_within) hc fm_T0_good (fm_EX_st b x) hex q_1049 q_13 q_1047 q_1048 pd_Mo_within (c_Mo_within_ok (wi_of4 hv)) ⟨rfl, rfl, Nat.le_of_ble_eq_true rfl, Nat.le_of_ble_eq_true rfl⟩ ⟨Nat.le_of_ble_eq_true rfl, Nat.le_of_ble_eq_true rfl⟩ d_Mo_table_8 (Nat.le_of_ble_eq_true rfl) (fun r n2 M2 hp => ?_)
  obtain ⟨rfl, rfl, rfl⟩ := hp
  refine fm_cnt (z' := (0, 0)) rfl (fm_st (st' := [.int (nI 1)]) rfl ?_)
  refine fm_if_eq (tgt := 31) hc d_Mo_table_11 rfl (fun g => absurd g (by decide)) (fun _ => ?_)
  refine fm_iload_n hc d_Mo_table_14 rfl rfl ?_
  refine fm_iconst (v := nI 0) hc d_Mo_table_15 rfl ?_
  refine fm_bipush (v := nI 7) hc d_Mo_table_16 rfl ?_
  refine fm_callS (av := [.int w, .int (nI 0), .int (nI 7)]) (rest := []) (y := y_Mo_within) (bytes := b_Mo_within) hc fm_T0_good (fm_EX_st b x) hex q_1049 q_13 q_1047 q_1048 pd_Mo_within (c_Mo_within_no (wi_no8 hw)) ⟨rfl, rfl, Nat.le_of_ble_eq_true rfl, Nat.le_of_ble_eq_true rfl⟩ ⟨Nat.le_of_ble_eq_true rfl, Nat.le_of_ble_eq_true rfl⟩ d_Mo_table_18 (Nat.le_of_ble_eq_true rfl) (fun r n2 M2 hp => ?_)
  obtain ⟨rfl, rfl, rfl⟩ := hp
  refine fm_cnt (z' := (0, 0)) rfl (fm_st (st' := [.int (nI 0)]) rfl ?_)
  refine fm_if_eq (tgt := 31) hc d_Mo_table_21 rfl (fun _ => ?_) (fun g => absurd rfl g)
  refine fm_iconst (v := nI 0) hc d_Mo_table_31 rfl ?_
  exact fm_zret (ty := .boolean) hc hr (by first | rfl | decide) d_Mo_table_32 (Nat.le_refl _) (Nat.le_refl _) ⟨rfl, rfl, rfl⟩
theorem r_table_late {l : Launch} {b : Nat} {x : Nat → Nat} {D : va_G} {dA : Nat → ClassId} {j i : Nat} {u : Int32} {n : Nat} {M : fm_M} (hn : 629 ≤ n) (hR : fm_RP M) (hj : j < 4) (hi : i < 8) (hL : ¬ M.1 586 4 ≤ 0) : Met l y_Mo_table (Cond.code y_Mo_table b_Mo_table 4 (some .boolean) :: fm_T0) ({ frames := 1, cells := 0, slots := 0, locals := 22 }) (fm_Pc fm_lay fm_nf fm_fk fm_cl b x D dA (fm_tys dA) (fm_EX b x) false [.ref 586, .int (nI j), .int (nI i), .int u] n M) (fm_Qc fm_lay fm_nf fm_fk fm_cl b x D dA (fun r n' M' => r = some (.int (nI 0)) ∧ n' = n ∧ M' = fm_put1 M 586 0 (nI 0))) 0 0 (fm_A b) := by
  refine fm_enter (by decide) (Nat.le_of_ble_eq_true rfl) ?_
  intro p e s m args below meth c hc hr hnm hex htg
  refine fm_aload_n hc d_Mo_table_0 rfl rfl ?_
  refine fm_iconst (v := nI 0) hc d_Mo_table_1 rfl ?_
  refine fm_putI (k := 0) (v := nI 0) hc K_Mo d_Mo_table_2 q_885 rfl (by decide) (by omega) (by decide) (by decide) (by decide) rfl rfl rfl rfl ?_
  refine fm_iload_n hc d_Mo_table_5 rfl rfl ?_
  refine fm_iconst (v := nI 0) hc d_Mo_table_6 rfl ?_
  refine fm_iconst (v := nI 3) hc d_Mo_table_7 rfl ?_
  refine fm_callS (av := [.int (nI j), .int (nI 0), .int (nI 3)]) (rest := []) (y := y_Mo_within) (bytes := b_Mo_within) hc fm_T0_good (fm_EX_st b x) hex q_1049 q_13 q_1047 q_1048 pd_Mo_within (c_Mo_within_ok (wi_of4 (in4_of hj))) ⟨rfl, rfl, Nat.le_of_ble_eq_true rfl, Nat.le_of_ble_eq_true rfl⟩ ⟨Nat.le_of_ble_eq_true rfl, Nat.le_of_ble_eq_true rfl⟩ d_Mo_table_8 (Nat.le_of_ble_eq_true rfl) (fun r n2 M2 hp => ?_)
  obtain ⟨rfl, rfl, rfl⟩ := hp
  refine fm_cnt (z' := (0, 0)) rfl (fm_st (st' := [.int (nI 1)]) rfl ?_)
  refine fm_if_eq (tgt := 31) hc d_Mo_table_11 rfl (fun g => absurd g (by decide)) (fun _ => ?_)
  refine fm_iload_n hc d_Mo_table_14 rfl rfl ?_
  refine fm_iconst (v := nI 0) hc d_Mo_table_15 rfl ?_
  refine fm_bipush (v := nI 7) hc d_Mo_table_16 rfl ?_
  refine fm_callS (av := [.int (nI i), .int (nI 0), .int (nI 7)]) (rest := []) (y := y_Mo_within) (bytes := b_Mo_within) hc fm_T0_good (fm_EX_st b x) hex q_1049 q_13 q_1047 q_1048 pd_Mo_within (c_Mo_within_ok (wi_of8 (in8_of hi))) ⟨rfl, rfl, Nat.le_of_ble_eq_true rfl, Nat.le_of_ble_eq_true rfl⟩ ⟨Nat.le_of_ble_eq_true rfl, Nat.le_of_ble_eq_true rfl⟩ d_Mo_table_18 (Nat.le_of_ble_eq_true rfl) (fun r n2 M2 hp => ?_)
  obtain ⟨rfl, rfl, rfl⟩ := hp
  refine fm_cnt (z' := (0, 0)) rfl (fm_st (st' := [.int (nI 1)]) rfl ?_)
  refine fm_if_eq (tgt := 31) hc d_Mo_table_21 rfl (fun g => absurd g (by decide)) (fun _ => ?_)
  refine fm_aload_n hc d_Mo_table_24 rfl rfl ?_
  refine fm_getI (k := 4) hc K_Mo d_Mo_table_25 q_889 rfl (by decide) (by omega) (by decide) (by decide) (by decide) rfl ?_
  refine fm_if_le (tgt := 33) hc d_Mo_table_28 rfl (fun g => absurd g hL) (fun _ => ?_)
  refine fm_iconst (v := nI 0) hc d_Mo_table_31 rfl ?_
  exact fm_zret (ty := .boolean) hc hr (by first | rfl | decide) d_Mo_table_32 (Nat.le_refl _) (Nat.le_refl _) ⟨rfl, rfl, rfl⟩
theorem r_table_ok {l : Launch} {b : Nat} {x : Nat → Nat} {D : va_G} {dA : Nat → ClassId} {j i : Nat} {u : Int32} {n : Nat} {M : fm_M} (hn : 629 ≤ n) (hR : fm_RP M) (hj : j < 4) (hi : i < 8) (hL : M.1 586 4 ≤ 0) : Met l y_Mo_table (Cond.code y_Mo_table b_Mo_table 4 (some .boolean) :: fm_T0) ({ frames := 1, cells := 0, slots := 0, locals := 22 }) (fm_Pc fm_lay fm_nf fm_fk fm_cl b x D dA (fm_tys dA) (fm_EX b x) false [.ref 586, .int (nI j), .int (nI i), .int u] n M) (fm_Qc fm_lay fm_nf fm_fk fm_cl b x D dA (fun r n' M' => r = some (.int (nI 1)) ∧ n' = n ∧ M' = fm_put1 (fm_put1 M 586 0 (nI 0)) 589 (8 * j + i) u)) 0 0 (fm_A b) := by
  refine fm_enter (by decide) (Nat.le_of_ble_eq_true rfl) ?_
  intro p e s m args below meth c hc hr hnm hex htg
  refine fm_aload_n hc d_Mo_table_0 rfl rfl ?_
  refine fm_iconst (v := nI 0) hc d_Mo_table_1 rfl ?_
  refine fm_putI (k := 0) (v := nI 0) hc K_Mo d_Mo_table_2 q_885 rfl (by decide) (by omega) (by decide) (by decide) (by decide) rfl rfl rfl rfl ?_
  refine fm_iload_n hc d_Mo_table_5 rfl rfl ?_
  refine fm_iconst (v := nI 0) hc d_Mo_table_6 rfl ?_
  refine fm_iconst (v := nI 3) hc d_Mo_table_7 rfl ?_
  refine fm_callS (av := [.int (nI j), .int (nI 0), .int (nI 3)]) (rest := []) (y := y_Mo_within) (bytes := b_Mo_within) hc fm_T0_good (fm_EX_st b x) hex q_1049 q_13 q_1047 q_1048 pd_Mo_within (c_Mo_within_ok (wi_of4 (in4_of hj))) ⟨rfl, rfl, Nat.le_of_ble_eq_true rfl, Nat.le_of_ble_eq_true rfl⟩ ⟨Nat.le_of_ble_eq_true rfl, Nat.le_of_ble_eq_true rfl⟩ d_Mo_table_8 (Nat.le_of_ble_eq_true rfl) (fun r n2 M2 hp => ?_)
  obtain ⟨rfl, rfl, rfl⟩ := hp
  refine fm_cnt (z' := (0, 0)) rfl (fm_st (st' := [.int (nI 1)]) rfl ?_)
  refine fm_if_eq (tgt := 31) hc d_Mo_table_11 rfl (fun g => absurd g (by decide)) (fun _ => ?_)
  refine fm_iload_n hc d_Mo_table_14 rfl rfl ?_
  refine fm_iconst (v := nI 0) hc d_Mo_table_15 rfl ?_
  refine fm_bipush (v := nI 7) hc d_Mo_table_16 rfl ?_
  refine fm_callS (av := [.int (nI i), .int (nI 0), .int (nI 7)]) (rest := []) (y := y_Mo_within) (bytes := b_Mo_within) hc fm_T0_good (fm_EX_st b x) hex q_1049 q_13 q_1047 q_1048 pd_Mo_within (c_Mo_within_ok (wi_of8 (in8_of hi))) ⟨rfl, rfl, Nat.le_of_ble_eq_true rfl, Nat.le_of_ble_eq_true rfl⟩ ⟨Nat.le_of_ble_eq_true rfl, Nat.le_of_ble_eq_true rfl⟩ d_Mo_table_18 (Nat.le_of_ble_eq_true rfl) (fun r n2 M2 hp => ?_)
  obtain ⟨rfl, rfl, rfl⟩ := hp
  refine fm_cnt (z' := (0, 0)) rfl (fm_st (st' := [.int (nI 1)]) rfl ?_)
  refine fm_if_eq (tgt := 31) hc d_Mo_table_21 rfl (fun g => absurd g (by decide)) (fun _ => ?_)
  refine fm_aload_n hc d_Mo_table_24 rfl rfl ?_
  refine fm_getI (k := 4) hc K_Mo d_Mo_table_25 q_889 rfl (by decide) (by omega) (by decide) (by decide) (by decide) rfl ?_
  refine fm_if_le (tgt := 33) hc d_Mo_table_28 rfl (fun _ => ?_) (fun g => absurd hL g)
  refine fm_aload_n hc d_Mo_table_33 rfl rfl ?_
  refine fm_getR (k := 3) (q := 589) hc K_Mo d_Mo_table_34 q_888 rfl (by decide) (by omega) (by decide) (by decide) (by decide) rfl (rp_tables hR) ?_
  refine fm_bipush (v := nI 8) hc d_Mo_table_37 rfl ?_
  refine fm_iload_n hc d_Mo_table_39 rfl rfl ?_
  refine fm_imul hc d_Mo_table_40 ?_
  refine fm_top (congrArg Value.int (pk_mul 8 j)) ?_
  refine fm_iload_n hc d_Mo_table_41 rfl rfl ?_
  refine fm_iadd hc d_Mo_table_42 ?_
  refine fm_top (congrArg Value.int (nI_add (8 * j) i)) ?_
  refine fm_iload_n hc d_Mo_table_43 rfl rfl ?_
  refine fm_iast (j := (8 * j) + i) (len := 32) (v := u) hc 0 d_Mo_table_44 (by decide) (by omega) (by decide) rfl (by omega) (by decide) ?_
  refine fm_iconst (v := nI 1) hc d_Mo_table_45 rfl ?_
  exact fm_zret (ty := .boolean) hc hr (by first | rfl | decide) d_Mo_table_46 (Nat.le_refl _) (Nat.le_refl _) ⟨rfl, rfl, rfl⟩
theorem c_slot_bad1 {l : Launch} {b : Nat} {x : Nat → Nat} {D : va_G} {dA : Nat → ClassId} {v w : Int32} {n : Nat} {M : fm_M} (hn : 586 ≤ n) (hA : fm_AP M) (hv : ¬ fm_in 4 v) : Met l y_An_slot (Cond.code y_An_slot b_An_slot 3 (some .int) :: fm_T0) ({ frames := 1, cells := 0, slots := 0, locals := 20 }) (fm_Pc fm_lay fm_nf fm_fk fm_cl b x D dA (fm_tys dA) (fm_EX b x) false [.ref 8, .int v, .int w] n M) (fm_Qc fm_lay fm_nf fm_fk fm_cl b x D dA (fun r n' M' => r = some (.int ((-1))) ∧ n' = n ∧ M' = M)) 0 0 (fm_A b) := by
  refine fm_enter (by decide) (Nat.le_of_ble_eq_true rfl) ?_
  intro p e s m args below meth c hc hr hnm hex htg
  refine fm_iload_n hc d_An_slot_0 rfl rfl ?_
  refine fm_callS (av := [.int v]) (rest := []) (y := y_An_isHost) (bytes := b_An_isHost) hc fm_T0_good (fm_EX_st b x) hex q_397 q_1 q_395 q_396 pd_An_isHost (c_An_isHost_no hv) ⟨rfl, rfl, Nat.le_of_ble_eq_true rfl, Nat.le_of_ble_eq_true rfl⟩ ⟨Nat.le_of_ble_eq_true rfl, Nat.le_of_ble_eq_true rfl⟩ d_An_slot_1 (Nat.le_of_ble_eq_true rfl) (fun r n2 M2 hp => ?_)
  obtain ⟨rfl, rfl, rfl⟩ := hp
  refine fm_cnt (z' := (0, 0)) rfl (fm_st (st' := [.int (nI 0)]) rfl ?_)
  refine fm_if_eq (tgt := 26) hc d_An_slot_4 rfl (fun _ => ?_) (fun g => absurd rfl g)
  refine fm_iconst (v := (-1)) hc d_An_slot_26 rfl ?_
  exact fm_iret hc hr d_An_slot_27 (Nat.le_refl _) (Nat.le_refl _) ⟨rfl, rfl, rfl⟩
theorem c_slot_bad2 {l : Launch} {b : Nat} {x : Nat → Nat} {D : va_G} {dA : Nat → ClassId} {v w : Int32} {n : Nat} {M : fm_M} (hn : 586 ≤ n) (hA : fm_AP M) (hv : fm_in 4 v) (hw : ¬ fm_in 8 w) : Met l y_An_slot (Cond.code y_An_slot b_An_slot 3 (some .int) :: fm_T0) ({ frames := 1, cells := 0, slots := 0, locals := 20 }) (fm_Pc fm_lay fm_nf fm_fk fm_cl b x D dA (fm_tys dA) (fm_EX b x) false [.ref 8, .int v, .int w] n M) (fm_Qc fm_lay fm_nf fm_fk fm_cl b x D dA (fun r n' M' => r = some (.int ((-1))) ∧ n' = n ∧ M' = M)) 0 0 (fm_A b) := by
  refine fm_enter (by decide) (Nat.le_of_ble_eq_true rfl) ?_
  intro p e s m args below meth c hc hr hnm hex htg
  refine fm_iload_n hc d_An_slot_0 rfl rfl ?_
  refine fm_callS (av := [.int v]) (rest := []) (y := y_An_isHost) (bytes := b_An_isHost) hc fm_T0_good (fm_EX_st b x) hex q_397 q_1 q_395 q_396 pd_An_isHost (c_An_isHost_ok hv) ⟨rfl, rfl, Nat.le_of_ble_eq_true rfl, Nat.le_of_ble_eq_true rfl⟩ ⟨Nat.le_of_ble_eq_true rfl, Nat.le_of_ble_eq_true rfl⟩ d_An_slot_1 (Nat.le_of_ble_eq_true rfl) (fun r n2 M2 hp => ?_)
  obtain ⟨rfl, rfl, rfl⟩ := hp
  refine fm_cnt (z' := (0, 0)) rfl (fm_st (st' := [.int (nI 1)]) rfl ?_)
  refine fm_if_eq (tgt := 26) hc d_An_slot_4 rfl (fun g => absurd g (by decide)) (fun _ => ?_)
  refine fm_iload_n hc d_An_slot_7 rfl rfl ?_
  refine fm_callS (av := [.int w]) (rest := []) (y := y_An_isAgent) (bytes := b_An_isAgent) hc fm_T0_good (fm_EX_st b x) hex q_416 q_1 q_414 q_415 pd_An_isAgent (c_An_isAgent_no hw) ⟨rfl, rfl, Nat.le_of_ble_eq_true rfl, Nat.le_of_ble_eq_true rfl⟩ ⟨Nat.le_of_ble_eq_true rfl, Nat.le_of_ble_eq_true rfl⟩ d_An_slot_8 (Nat.le_of_ble_eq_true rfl) (fun r n2 M2 hp => ?_)
  obtain ⟨rfl, rfl, rfl⟩ := hp
  refine fm_cnt (z' := (0, 0)) rfl (fm_st (st' := [.int (nI 0)]) rfl ?_)
  refine fm_if_eq (tgt := 26) hc d_An_slot_11 rfl (fun _ => ?_) (fun g => absurd rfl g)
  refine fm_iconst (v := (-1)) hc d_An_slot_26 rfl ?_
  exact fm_iret hc hr d_An_slot_27 (Nat.le_refl _) (Nat.le_refl _) ⟨rfl, rfl, rfl⟩
theorem c_slot_down {l : Launch} {b : Nat} {x : Nat → Nat} {D : va_G} {dA : Nat → ClassId} {j : Nat} {w : Int32} {n : Nat} {M : fm_M} (hn : 586 ≤ n) (hA : fm_AP M) (hj : j < 4) (hw : fm_in 8 w) (hu : M.1 (90 + 124 * j) 1 = 0) : Met l y_An_slot (Cond.code y_An_slot b_An_slot 3 (some .int) :: fm_T0) ({ frames := 1, cells := 0, slots := 0, locals := 20 }) (fm_Pc fm_lay fm_nf fm_fk fm_cl b x D dA (fm_tys dA) (fm_EX b x) false [.ref 8, .int (nI j), .int w] n M) (fm_Qc fm_lay fm_nf fm_fk fm_cl b x D dA (fun r n' M' => r = some (.int ((-1))) ∧ n' = n ∧ M' = M)) 0 0 (fm_A b) := by
  refine fm_enter (by decide) (Nat.le_of_ble_eq_true rfl) ?_
  intro p e s m args below meth c hc hr hnm hex htg
  refine fm_iload_n hc d_An_slot_0 rfl rfl ?_
  refine fm_callS (av := [.int (nI j)]) (rest := []) (y := y_An_isHost) (bytes := b_An_isHost) hc fm_T0_good (fm_EX_st b x) hex q_397 q_1 q_395 q_396 pd_An_isHost (c_An_isHost_ok (in4_of hj)) ⟨rfl, rfl, Nat.le_of_ble_eq_true rfl, Nat.le_of_ble_eq_true rfl⟩ ⟨Nat.le_of_ble_eq_true rfl, Nat.le_of_ble_eq_true rfl⟩ d_An_slot_1 (Nat.le_of_ble_eq_true rfl) (fun r n2 M2 hp => ?_)
  obtain ⟨rfl, rfl, rfl⟩ := hp
  refine fm_cnt (z' := (0, 0)) rfl (fm_st (st' := [.int (nI 1)]) rfl ?_)
  refine fm_if_eq (tgt := 26) hc d_An_slot_4 rfl (fun g => absurd g (by decide)) (fun _ => ?_)
  refine fm_iload_n hc d_An_slot_7 rfl rfl ?_
  refine fm_callS (av := [.int w]) (rest := []) (y := y_An_isAgent) (bytes := b_An_isAgent) hc fm_T0_good (fm_EX_st b x) hex q_416 q_1 q_414 q_415 pd_An_isAgent (c_An_isAgent_ok hw) ⟨rfl, rfl, Nat.le_of_ble_eq_true rfl, Nat.le_of_ble_eq_true rfl⟩ ⟨Nat.le_of_ble_eq_true rfl, Nat.le_of_ble_eq_true rfl⟩ d_An_slot_8 (Nat.le_of_ble_eq_true rfl) (fun r n2 M2 hp => ?_)
  obtain ⟨rfl, rfl, rfl⟩ := hp
  refine fm_cnt (z' := (0, 0)) rfl (fm_st (st' := [.int (nI 1)]) rfl ?_)
  refine fm_if_eq (tgt := 26) hc d_An_slot_11 rfl (fun g => absurd g (by decide)) (fun _ => ?_)
  refine fm_aload_n hc d_An_slot_14 rfl rfl ?_
  refine fm_getR (k := 2) (q := 15) hc K_An d_An_slot_15 q_357 rfl (by decide) (by omega) (by decide) (by decide) (by decide) rfl (ap_2 hA) ?_
  refine fm_iload_n hc d_An_slot_18 rfl rfl ?_
  refine fm_aald (q := 90 + 124 * j) (j := j) (len := 4) hc 5 d_An_slot_19 (by decide) (by omega) (by decide) (by decide) rfl (by omega) (by decide) (ap_site hA hj) ?_
  refine fm_getI (k := 1) hc K_Si d_An_slot_20 q_334 rfl (by omega) (by omega) (ly_Si hj) (by decide) (by decide) rfl ?_
  refine fm_if_ne (tgt := 28) hc d_An_slot_23 rfl (fun g => absurd hu g) (fun _ => ?_)
  refine fm_iconst (v := (-1)) hc d_An_slot_26 rfl ?_
  exact fm_iret hc hr d_An_slot_27 (Nat.le_refl _) (Nat.le_refl _) ⟨rfl, rfl, rfl⟩
theorem c_slot_ok {l : Launch} {b : Nat} {x : Nat → Nat} {D : va_G} {dA : Nat → ClassId} {j i mm sl : Nat} {n : Nat} {M : fm_M} (hn : 586 ≤ n) (hA : fm_AP M) (hj : j < 4) (hi : i < 8) (hu : ¬ M.1 (90 + 124 * j) 1 = 0) (hm : M.2.2 (90 + 124 * j) 3 = some mm) (hm8 : 8 ≤ mm) (hmn : mm < n) (hml : (fm_lay mm).1 = 6) (hs : M.2.2 mm 0 = some sl) (hs8 : 8 ≤ sl) (hsn : sl < n) (hsl : fm_lay sl = (100, 8)) : Met l y_An_slot (Cond.code y_An_slot b_An_slot 3 (some .int) :: fm_T0) ({ frames := 1, cells := 0, slots := 0, locals := 20 }) (fm_Pc fm_lay fm_nf fm_fk fm_cl b x D dA (fm_tys dA) (fm_EX b x) false [.ref 8, .int (nI j), .int (nI i)] n M) (fm_Qc fm_lay fm_nf fm_fk fm_cl b x D dA (fun r n' M' => r = some (.int (M.1 sl i)) ∧ n' = n ∧ M' = M)) 0 0 (fm_A b) := by
  refine fm_enter (by decide) (Nat.le_of_ble_eq_true rfl) ?_
  intro p e s m args below meth c hc hr hnm hex htg
  refine fm_iload_n hc d_An_slot_0 rfl rfl ?_
  refine fm_callS (av := [.int (nI j)]) (rest := []) (y := y_An_isHost) (bytes := b_An_isHost) hc fm_T0_good (fm_EX_st b x) hex q_397 q_1 q_395 q_396 pd_An_isHost (c_An_isHost_ok (in4_of hj)) ⟨rfl, rfl, Nat.le_of_ble_eq_true rfl, Nat.le_of_ble_eq_true rfl⟩ ⟨Nat.le_of_ble_eq_true rfl, Nat.le_of_ble_eq_true rfl⟩ d_An_slot_1 (Nat.le_of_ble_eq_true rfl) (fun r n2 M2 hp => ?_)
  obtain ⟨rfl, rfl, rfl⟩ := hp
  refine fm_cnt (z' := (0, 0)) rfl (fm_st (st' := [.int (nI 1)]) rfl ?_)
  refine fm_if_eq (tgt := 26) hc d_An_slot_4 rfl (fun g => absurd g (by decide)) (fun _ => ?_)
  refine fm_iload_n hc d_An_slot_7 rfl rfl ?_
  refine fm_callS (av := [.int (nI i)]) (rest := []) (y := y_An_isAgent) (bytes := b_An_isAgent) hc fm_T0_good (fm_EX_st b x) hex q_416 q_1 q_414 q_415 pd_An_isAgent (c_An_isAgent_ok (in8_of hi)) ⟨rfl, rfl, Nat.le_of_ble_eq_true rfl, Nat.le_of_ble_eq_true rfl⟩ ⟨Nat.le_of_ble_eq_true rfl, Nat.le_of_ble_eq_true rfl⟩ d_An_slot_8 (Nat.le_of_ble_eq_true rfl) (fun r n2 M2 hp => ?_)
  obtain ⟨rfl, rfl, rfl⟩ := hp
  refine fm_cnt (z' := (0, 0)) rfl (fm_st (st' := [.int (nI 1)]) rfl ?_)
  refine fm_if_eq (tgt := 26) hc d_An_slot_11 rfl (fun g => absurd g (by decide)) (fun _ => ?_)
  refine fm_aload_n hc d_An_slot_14 rfl rfl ?_
  refine fm_getR (k := 2) (q := 15) hc K_An d_An_slot_15 q_357 rfl (by decide) (by omega) (by decide) (by decide) (by decide) rfl (ap_2 hA) ?_
  refine fm_iload_n hc d_An_slot_18 rfl rfl ?_
  refine fm_aald (q := 90 + 124 * j) (j := j) (len := 4) hc 5 d_An_slot_19 (by decide) (by omega) (by decide) (by decide) rfl (by omega) (by decide) (ap_site hA hj) ?_
  refine fm_getI (k := 1) hc K_Si d_An_slot_20 q_334 rfl (by omega) (by omega) (ly_Si hj) (by decide) (by decide) rfl ?_
  refine fm_if_ne (tgt := 28) hc d_An_slot_23 rfl (fun _ => ?_) (fun g => absurd g hu)
  refine fm_aload_n hc d_An_slot_28 rfl rfl ?_
  refine fm_getR (k := 2) (q := 15) hc K_An d_An_slot_29 q_357 rfl (by decide) (by omega) (by decide) (by decide) (by decide) rfl (ap_2 hA) ?_
  refine fm_iload_n hc d_An_slot_32 rfl rfl ?_
  refine fm_aald (q := 90 + 124 * j) (j := j) (len := 4) hc 5 d_An_slot_33 (by decide) (by omega) (by decide) (by decide) rfl (by omega) (by decide) (ap_site hA hj) ?_
  refine fm_getR (k := 3) (q := mm) hc K_Si d_An_slot_34 q_338 rfl (by omega) (by omega) (ly_Si hj) (by decide) (by decide) rfl hm ?_
  refine fm_getR (k := 0) (q := sl) hc K_Me d_An_slot_37 q_307 rfl hm8 hmn hml (by decide) (by decide) rfl hs ?_
  refine fm_iload_n hc d_An_slot_40 rfl rfl ?_
  refine fm_iald (j := i) (len := 8) hc 0 d_An_slot_41 hs8 hsn hsl rfl (by omega) (by decide) ?_
  exact fm_iret hc hr d_An_slot_42 (Nat.le_refl _) (Nat.le_refl _) ⟨rfl, rfl, rfl⟩
theorem r_slot_bad1 {l : Launch} {b : Nat} {x : Nat → Nat} {D : va_G} {dA : Nat → ClassId} {v w : Int32} {n : Nat} {M : fm_M} (hn : 629 ≤ n) (hR : fm_RP M) (hv : ¬ fm_in 4 v) : Met l y_Mo_slot (Cond.code y_Mo_slot b_Mo_slot 3 (some .int) :: fm_T0) ({ frames := 1, cells := 0, slots := 0, locals := 22 }) (fm_Pc fm_lay fm_nf fm_fk fm_cl b x D dA (fm_tys dA) (fm_EX b x) false [.ref 586, .int v, .int w] n M) (fm_Qc fm_lay fm_nf fm_fk fm_cl b x D dA (fun r n' M' => r = some (.int ((-1))) ∧ n' = n ∧ M' = fm_put1 M 586 0 (nI 0))) 0 0 (fm_A b) := by
  refine fm_enter (by decide) (Nat.le_of_ble_eq_true rfl) ?_
  intro p e s m args below meth c hc hr hnm hex htg
  refine fm_aload_n hc d_Mo_slot_0 rfl rfl ?_
  refine fm_iconst (v := nI 0) hc d_Mo_slot_1 rfl ?_
  refine fm_putI (k := 0) (v := nI 0) hc K_Mo d_Mo_slot_2 q_885 rfl (by decide) (by omega) (by decide) (by decide) (by decide) rfl rfl rfl rfl ?_
  refine fm_iload_n hc d_Mo_slot_5 rfl rfl ?_
  refine fm_iconst (v := nI 0) hc d_Mo_slot_6 rfl ?_
  refine fm_iconst (v := nI 3) hc d_Mo_slot_7 rfl ?_
  refine fm_callS (av := [.int v, .int (nI 0), .int (nI 3)]) (rest := []) (y := y_Mo_within) (bytes := b_Mo_within) hc fm_T0_good (fm_EX_st b x) hex q_1049 q_13 q_1047 q_1048 pd_Mo_within (c_Mo_within_no (wi_no4 hv)) ⟨rfl, rfl, Nat.le_of_ble_eq_true rfl, Nat.le_of_ble_eq_true rfl⟩ ⟨Nat.le_of_ble_eq_true rfl, Nat.le_of_ble_eq_true rfl⟩ d_Mo_slot_8 (Nat.le_of_ble_eq_true rfl) (fun r n2 M2 hp => ?_)
  obtain ⟨rfl, rfl, rfl⟩ := hp
  refine fm_cnt (z' := (0, 0)) rfl (fm_st (st' := [.int (nI 0)]) rfl ?_)
  refine fm_if_eq (tgt := 47) hc d_Mo_slot_11 rfl (fun _ => ?_) (fun g => absurd rfl g)
  refine fm_iconst (v := (-1)) hc d_Mo_slot_47 rfl ?_
  exact fm_iret hc hr d_Mo_slot_48 (Nat.le_refl _) (Nat.le_refl _) ⟨rfl, rfl, rfl⟩
theorem r_slot_bad2 {l : Launch} {b : Nat} {x : Nat → Nat} {D : va_G} {dA : Nat → ClassId} {v w : Int32} {n : Nat} {M : fm_M} (hn : 629 ≤ n) (hR : fm_RP M) (hv : fm_in 4 v) (hw : ¬ fm_in 8 w) : Met l y_Mo_slot (Cond.code y_Mo_slot b_Mo_slot 3 (some .int) :: fm_T0) ({ frames := 1, cells := 0, slots := 0, locals := 22 }) (fm_Pc fm_lay fm_nf fm_fk fm_cl b x D dA (fm_tys dA) (fm_EX b x) false [.ref 586, .int v, .int w] n M) (fm_Qc fm_lay fm_nf fm_fk fm_cl b x D dA (fun r n' M' => r = some (.int ((-1))) ∧ n' = n ∧ M' = fm_put1 M 586 0 (nI 0))) 0 0 (fm_A b) := by
  refine fm_enter (by decide) (Nat.le_of_ble_eq_true rfl) ?_
  intro p e s m args below meth c hc hr hnm hex htg
  refine fm_aload_n hc d_Mo_slot_0 rfl rfl ?_
  refine fm_iconst (v := nI 0) hc d_Mo_slot_1 rfl ?_
  refine fm_putI (k := 0) (v := nI 0) hc K_Mo d_Mo_slot_2 q_885 rfl (by decide) (by omega) (by decide) (by decide) (by decide) rfl rfl rfl rfl ?_
  refine fm_iload_n hc d_Mo_slot_5 rfl rfl ?_
  refine fm_iconst (v := nI 0) hc d_Mo_slot_6 rfl ?_
  refine fm_iconst (v := nI 3) hc d_Mo_slot_7 rfl ?_
  refine fm_callS (av := [.int v, .int (nI 0), .int (nI 3)]) (rest := []) (y := y_Mo_within) (bytes := b_Mo_within) hc fm_T0_good (fm_EX_st b x) hex q_1049 q_13 q_1047 q_1048 pd_Mo_within (c_Mo_within_ok (wi_of4 hv)) ⟨rfl, rfl, Nat.le_of_ble_eq_true rfl, Nat.le_of_ble_eq_true rfl⟩ ⟨Nat.le_of_ble_eq_true rfl, Nat.le_of_ble_eq_true rfl⟩ d_Mo_slot_8 (Nat.le_of_ble_eq_true rfl) (fun r n2 M2 hp => ?_)
  obtain ⟨rfl, rfl, rfl⟩ := hp
  refine fm_cnt (z' := (0, 0)) rfl (fm_st (st' := [.int (nI 1)]) rfl ?_)
  refine fm_if_eq (tgt := 47) hc d_Mo_slot_11 rfl (fun g => absurd g (by decide)) (fun _ => ?_)
  refine fm_iload_n hc d_Mo_slot_14 rfl rfl ?_
  refine fm_iconst (v := nI 0) hc d_Mo_slot_15 rfl ?_
  refine fm_bipush (v := nI 7) hc d_Mo_slot_16 rfl ?_
  refine fm_callS (av := [.int w, .int (nI 0), .int (nI 7)]) (rest := []) (y := y_Mo_within) (bytes := b_Mo_within) hc fm_T0_good (fm_EX_st b x) hex q_1049 q_13 q_1047 q_1048 pd_Mo_within (c_Mo_within_no (wi_no8 hw)) ⟨rfl, rfl, Nat.le_of_ble_eq_true rfl, Nat.le_of_ble_eq_true rfl⟩ ⟨Nat.le_of_ble_eq_true rfl, Nat.le_of_ble_eq_true rfl⟩ d_Mo_slot_18 (Nat.le_of_ble_eq_true rfl) (fun r n2 M2 hp => ?_)
  obtain ⟨rfl, rfl, rfl⟩ := hp
  refine fm_cnt (z' := (0, 0)) rfl (fm_st (st' := [.int (nI 0)]) rfl ?_)
  refine fm_if_eq (tgt := 47) hc d_Mo_slot_21 rfl (fun _ => ?_) (fun g => absurd rfl g)
  refine fm_iconst (v := (-1)) hc d_Mo_slot_47 rfl ?_
  exact fm_iret hc hr d_Mo_slot_48 (Nat.le_refl _) (Nat.le_refl _) ⟨rfl, rfl, rfl⟩
theorem r_slot_down {l : Launch} {b : Nat} {x : Nat → Nat} {D : va_G} {dA : Nat → ClassId} {j : Nat} {w : Int32} {n : Nat} {M : fm_M} (hn : 629 ≤ n) (hR : fm_RP M) (hj : j < 4) (hw : fm_in 8 w) (hu : M.1 595 j = 0) : Met l y_Mo_slot (Cond.code y_Mo_slot b_Mo_slot 3 (some .int) :: fm_T0) ({ frames := 1, cells := 0, slots := 0, locals := 22 }) (fm_Pc fm_lay fm_nf fm_fk fm_cl b x D dA (fm_tys dA) (fm_EX b x) false [.ref 586, .int (nI j), .int w] n M) (fm_Qc fm_lay fm_nf fm_fk fm_cl b x D dA (fun r n' M' => r = some (.int ((-1))) ∧ n' = n ∧ M' = fm_put1 M 586 0 (nI 0))) 0 0 (fm_A b) := by
  refine fm_enter (by decide) (Nat.le_of_ble_eq_true rfl) ?_
  intro p e s m args below meth c hc hr hnm hex htg
  refine fm_aload_n hc d_Mo_slot_0 rfl rfl ?_
  refine fm_iconst (v := nI 0) hc d_Mo_slot_1 rfl ?_
  refine fm_putI (k := 0) (v := nI 0) hc K_Mo d_Mo_slot_2 q_885 rfl (by decide) (by omega) (by decide) (by decide) (by decide) rfl rfl rfl rfl ?_
  refine fm_iload_n hc d_Mo_slot_5 rfl rfl ?_
  refine fm_iconst (v := nI 0) hc d_Mo_slot_6 rfl ?_
  refine fm_iconst (v := nI 3) hc d_Mo_slot_7 rfl ?_
  refine fm_callS (av := [.int (nI j), .int (nI 0), .int (nI 3)]) (rest := []) (y := y_Mo_within) (bytes := b_Mo_within) hc fm_T0_good (fm_EX_st b x) hex q_1049 q_13 q_1047 q_1048 pd_Mo_within (c_Mo_within_ok (wi_of4 (in4_of hj))) ⟨rfl, rfl, Nat.le_of_ble_eq_true rfl, Nat.le_of_ble_eq_true rfl⟩ ⟨Nat.le_of_ble_eq_true rfl, Nat.le_of_ble_eq_true rfl⟩ d_Mo_slot_8 (Nat.le_of_ble_eq_true rfl) (fun r n2 M2 hp => ?_)
  obtain ⟨rfl, rfl, rfl⟩ := hp
  refine fm_cnt (z' := (0, 0)) rfl (fm_st (st' := [.int (nI 1)]) rfl ?_)
  refine fm_if_eq (tgt := 47) hc d_Mo_slot_11 rfl (fun g => absurd g (by decide)) (fun _ => ?_)
  refine fm_iload_n hc d_Mo_slot_14 rfl rfl ?_
  refine fm_iconst (v := nI 0) hc d_Mo_slot_15 rfl ?_
  refine fm_bipush (v := nI 7) hc d_Mo_slot_16 rfl ?_
  refine fm_callS (av := [.int w, .int (nI 0), .int (nI 7)]) (rest := []) (y := y_Mo_within) (bytes := b_Mo_within) hc fm_T0_good (fm_EX_st b x) hex q_1049 q_13 q_1047 q_1048 pd_Mo_within (c_Mo_within_ok (wi_of8 hw)) ⟨rfl, rfl, Nat.le_of_ble_eq_true rfl, Nat.le_of_ble_eq_true rfl⟩ ⟨Nat.le_of_ble_eq_true rfl, Nat.le_of_ble_eq_true rfl⟩ d_Mo_slot_18 (Nat.le_of_ble_eq_true rfl) (fun r n2 M2 hp => ?_)
  obtain ⟨rfl, rfl, rfl⟩ := hp
  refine fm_cnt (z' := (0, 0)) rfl (fm_st (st' := [.int (nI 1)]) rfl ?_)
  refine fm_if_eq (tgt := 47) hc d_Mo_slot_21 rfl (fun g => absurd g (by decide)) (fun _ => ?_)
  refine fm_aload_n hc d_Mo_slot_24 rfl rfl ?_
  refine fm_getR (k := 10) (q := 595) hc K_Mo d_Mo_slot_25 q_895 rfl (by decide) (by omega) (by decide) (by decide) (by decide) rfl (rp_up hR) ?_
  refine fm_iload_n hc d_Mo_slot_28 rfl rfl ?_
  refine fm_zald (j := j) (len := 4) hc 1 d_Mo_slot_29 (by decide) (by omega) (by decide) rfl (by omega) (by decide) ?_
  refine fm_if_eq (tgt := 47) hc d_Mo_slot_30 rfl (fun _ => ?_) (fun g => absurd hu g)
  refine fm_iconst (v := (-1)) hc d_Mo_slot_47 rfl ?_
  exact fm_iret hc hr d_Mo_slot_48 (Nat.le_refl _) (Nat.le_refl _) ⟨rfl, rfl, rfl⟩
theorem r_slot_ok {l : Launch} {b : Nat} {x : Nat → Nat} {D : va_G} {dA : Nat → ClassId} {j i : Nat} {n : Nat} {M : fm_M} (hn : 629 ≤ n) (hR : fm_RP M) (hj : j < 4) (hi : i < 8) (hu : ¬ M.1 595 j = 0) : Met l y_Mo_slot (Cond.code y_Mo_slot b_Mo_slot 3 (some .int) :: fm_T0) ({ frames := 1, cells := 0, slots := 0, locals := 22 }) (fm_Pc fm_lay fm_nf fm_fk fm_cl b x D dA (fm_tys dA) (fm_EX b x) false [.ref 586, .int (nI j), .int (nI i)] n M) (fm_Qc fm_lay fm_nf fm_fk fm_cl b x D dA (fun r n' M' => r = some (.int (M.1 597 (24 * j + i))) ∧ n' = n ∧ M' = fm_put1 M 586 0 (nI 0))) 0 0 (fm_A b) := by
  refine fm_enter (by decide) (Nat.le_of_ble_eq_true rfl) ?_
  intro p e s m args below meth c hc hr hnm hex htg
  refine fm_aload_n hc d_Mo_slot_0 rfl rfl ?_
  refine fm_iconst (v := nI 0) hc d_Mo_slot_1 rfl ?_
  refine fm_putI (k := 0) (v := nI 0) hc K_Mo d_Mo_slot_2 q_885 rfl (by decide) (by omega) (by decide) (by decide) (by decide) rfl rfl rfl rfl ?_
  refine fm_iload_n hc d_Mo_slot_5 rfl rfl ?_
  refine fm_iconst (v := nI 0) hc d_Mo_slot_6 rfl ?_
  refine fm_iconst (v := nI 3) hc d_Mo_slot_7 rfl ?_
  refine fm_callS (av := [.int (nI j), .int (nI 0), .int (nI 3)]) (rest := []) (y := y_Mo_within) (bytes := b_Mo_within) hc fm_T0_good (fm_EX_st b x) hex q_1049 q_13 q_1047 q_1048 pd_Mo_within (c_Mo_within_ok (wi_of4 (in4_of hj))) ⟨rfl, rfl, Nat.le_of_ble_eq_true rfl, Nat.le_of_ble_eq_true rfl⟩ ⟨Nat.le_of_ble_eq_true rfl, Nat.le_of_ble_eq_true rfl⟩ d_Mo_slot_8 (Nat.le_of_ble_eq_true rfl) (fun r n2 M2 hp => ?_)
  obtain ⟨rfl, rfl, rfl⟩ := hp
  refine fm_cnt (z' := (0, 0)) rfl (fm_st (st' := [.int (nI 1)]) rfl ?_)
  refine fm_if_eq (tgt := 47) hc d_Mo_slot_11 rfl (fun g => absurd g (by decide)) (fun _ => ?_)
  refine fm_iload_n hc d_Mo_slot_14 rfl rfl ?_
  refine fm_iconst (v := nI 0) hc d_Mo_slot_15 rfl ?_
  refine fm_bipush (v := nI 7) hc d_Mo_slot_16 rfl ?_
  refine fm_callS (av := [.int (nI i), .int (nI 0), .int (nI 7)]) (rest := []) (y := y_Mo_within) (bytes := b_Mo_within) hc fm_T0_good (fm_EX_st b x) hex q_1049 q_13 q_1047 q_1048 pd_Mo_within (c_Mo_within_ok (wi_of8 (in8_of hi))) ⟨rfl, rfl, Nat.le_of_ble_eq_true rfl, Nat.le_of_ble_eq_true rfl⟩ ⟨Nat.le_of_ble_eq_true rfl, Nat.le_of_ble_eq_true rfl⟩ d_Mo_slot_18 (Nat.le_of_ble_eq_true rfl) (fun r n2 M2 hp => ?_)
  obtain ⟨rfl, rfl, rfl⟩ := hp
  refine fm_cnt (z' := (0, 0)) rfl (fm_st (st' := [.int (nI 1)]) rfl ?_)
  refine fm_if_eq (tgt := 47) hc d_Mo_slot_21 rfl (fun g => absurd g (by decide)) (fun _ => ?_)
  refine fm_aload_n hc d_Mo_slot_24 rfl rfl ?_
  refine fm_getR (k := 10) (q := 595) hc K_Mo d_Mo_slot_25 q_895 rfl (by decide) (by omega) (by decide) (by decide) (by decide) rfl (rp_up hR) ?_
  refine fm_iload_n hc d_Mo_slot_28 rfl rfl ?_
  refine fm_zald (j := j) (len := 4) hc 1 d_Mo_slot_29 (by decide) (by omega) (by decide) rfl (by omega) (by decide) ?_
  refine fm_if_eq (tgt := 47) hc d_Mo_slot_30 rfl (fun g => absurd g hu) (fun _ => ?_)
  refine fm_aload_n hc d_Mo_slot_33 rfl rfl ?_
  refine fm_getR (k := 12) (q := 597) hc K_Mo d_Mo_slot_34 q_897 rfl (by decide) (by omega) (by decide) (by decide) (by decide) rfl (rp_slot hR) ?_
  refine fm_bipush (v := nI 24) hc d_Mo_slot_37 rfl ?_
  refine fm_iload_n hc d_Mo_slot_39 rfl rfl ?_
  refine fm_imul hc d_Mo_slot_40 ?_
  refine fm_top (congrArg Value.int (pk_mul 24 j)) ?_
  refine fm_iload_n hc d_Mo_slot_41 rfl rfl ?_
  refine fm_iadd hc d_Mo_slot_42 ?_
  refine fm_top (congrArg Value.int (nI_add (24 * j) i)) ?_
  refine fm_iald (j := (24 * j) + i) (len := 96) hc 0 d_Mo_slot_43 (by decide) (by omega) (by decide) rfl (by omega) (by decide) ?_
  refine fm_goto (tgt := 48) hc d_Mo_slot_44 rfl ?_
  exact fm_iret hc hr d_Mo_slot_48 (Nat.le_refl _) (Nat.le_refl _) ⟨rfl, rfl, rfl⟩
