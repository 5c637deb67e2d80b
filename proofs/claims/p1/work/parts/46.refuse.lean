/-! REFUSALS of the public methods -/
def fm_in (N : Nat) (v : Int32) : Prop := ¬ v < 0 ∧ ¬ nI N ≤ v
theorem c_An_isHost_ok {l : Launch} {b : Nat} {x : Nat → Nat} {D : va_G} {dA : Nat → ClassId} {v : Int32} {n : Nat} {M : fm_M} (h : fm_in 4 v) : Met l y_An_isHost (Cond.code y_An_isHost b_An_isHost 1 (some .boolean) :: fm_T0) ({ frames := 0, cells := 0, slots := 0, locals := 0 }) (fm_Pc fm_lay fm_nf fm_fk fm_cl b x D dA (fm_tys dA) (fm_EX b x) false [.int v] n M) (fm_Qc fm_lay fm_nf fm_fk fm_cl b x D dA (fun r n' M' => r = some (.int (nI 1)) ∧ n' = n ∧ M' = M)) 0 0 (fm_A b) := by
  have k := c_An_isHost (l := l) (b := b) (x := x) (D := D) (dA := dA) (v := v) (n := n) (M := M)
  rw [if_neg h.1, if_neg h.2] at k
  exact k
theorem c_An_isHost_no {l : Launch} {b : Nat} {x : Nat → Nat} {D : va_G} {dA : Nat → ClassId} {v : Int32} {n : Nat} {M : fm_M} (h : ¬ fm_in 4 v) : Met l y_An_isHost (Cond.code y_An_isHost b_An_isHost 1 (some .boolean) :: fm_T0) ({ frames := 0, cells := 0, slots := 0, locals := 0 }) (fm_Pc fm_lay fm_nf fm_fk fm_cl b x D dA (fm_tys dA) (fm_EX b x) false [.int v] n M) (fm_Qc fm_lay fm_nf fm_fk fm_cl b x D dA (fun r n' M' => r = some (.int (nI 0)) ∧ n' = n ∧ M' = M)) 0 0 (fm_A b) := by
  have k := c_An_isHost (l := l) (b := b) (x := x) (D := D) (dA := dA) (v := v) (n := n) (M := M)
  by_cases g : v < 0
  · rw [if_pos g] at k
    exact k
  · rw [if_neg g, if_pos (Classical.byContradiction fun g2 => h ⟨g, g2⟩)] at k
    exact k
theorem c_An_isProgram_ok {l : Launch} {b : Nat} {x : Nat → Nat} {D : va_G} {dA : Nat → ClassId} {v : Int32} {n : Nat} {M : fm_M} (h : fm_in 4 v) : Met l y_An_isProgram (Cond.code y_An_isProgram b_An_isProgram 1 (some .boolean) :: fm_T0) ({ frames := 0, cells := 0, slots := 0, locals := 0 }) (fm_Pc fm_lay fm_nf fm_fk fm_cl b x D dA (fm_tys dA) (fm_EX b x) false [.int v] n M) (fm_Qc fm_lay fm_nf fm_fk fm_cl b x D dA (fun r n' M' => r = some (.int (nI 1)) ∧ n' = n ∧ M' = M)) 0 0 (fm_A b) := by
  have k := c_An_isProgram (l := l) (b := b) (x := x) (D := D) (dA := dA) (v := v) (n := n) (M := M)
  rw [if_neg h.1, if_neg h.2] at k
  exact k
theorem c_An_isProgram_no {l : Launch} {b : Nat} {x : Nat → Nat} {D : va_G} {dA : Nat → ClassId} {v : Int32} {n : Nat} {M : fm_M} (h : ¬ fm_in 4 v) : Met l y_An_isProgram (Cond.code y_An_isProgram b_An_isProgram 1 (some .boolean) :: fm_T0) ({ frames := 0, cells := 0, slots := 0, locals := 0 }) (fm_Pc fm_lay fm_nf fm_fk fm_cl b x D dA (fm_tys dA) (fm_EX b x) false [.int v] n M) (fm_Qc fm_lay fm_nf fm_fk fm_cl b x D dA (fun r n' M' => r = some (.int (nI 0)) ∧ n' = n ∧ M' = M)) 0 0 (fm_A b) := by
  have k := c_An_isProgram (l := l) (b := b) (x := x) (D := D) (dA := dA) (v := v) (n := n) (M := M)
  by_cases g : v < 0
  · rw [if_pos g] at k
    exact k
  · rw [if_neg g, if_pos (Classical.byContradiction fun g2 => h ⟨g, g2⟩)] at k
    exact k
theorem c_An_isAgent_ok {l : Launch} {b : Nat} {x : Nat → Nat} {D : va_G} {dA : Nat → ClassId} {v : Int32} {n : Nat} {M : fm_M} (h : fm_in 8 v) : Met l y_An_isAgent (Cond.code y_An_isAgent b_An_isAgent 1 (some .boolean) :: fm_T0) ({ frames := 0, cells := 0, slots := 0, locals := 0 }) (fm_Pc fm_lay fm_nf fm_fk fm_cl b x D dA (fm_tys dA) (fm_EX b x) false [.int v] n M) (fm_Qc fm_lay fm_nf fm_fk fm_cl b x D dA (fun r n' M' => r = some (.int (nI 1)) ∧ n' = n ∧ M' = M)) 0 0 (fm_A b) := by
  have k := c_An_isAgent (l := l) (b := b) (x := x) (D := D) (dA := dA) (v := v) (n := n) (M := M)
  rw [if_neg h.1, if_neg h.2] at k
  exact k
theorem c_An_isAgent_no {l : Launch} {b : Nat} {x : Nat → Nat} {D : va_G} {dA : Nat → ClassId} {v : Int32} {n : Nat} {M : fm_M} (h : ¬ fm_in 8 v) : Met l y_An_isAgent (Cond.code y_An_isAgent b_An_isAgent 1 (some .boolean) :: fm_T0) ({ frames := 0, cells := 0, slots := 0, locals := 0 }) (fm_Pc fm_lay fm_nf fm_fk fm_cl b x D dA (fm_tys dA) (fm_EX b x) false [.int v] n M) (fm_Qc fm_lay fm_nf fm_fk fm_cl b x D dA (fun r n' M' => r = some (.int (nI 0)) ∧ n' = n ∧ M' = M)) 0 0 (fm_A b) := by
  have k := c_An_isAgent (l := l) (b := b) (x := x) (D := D) (dA := dA) (v := v) (n := n) (M := M)
  by_cases g : v < 0
  · rw [if_pos g] at k
    exact k
  · rw [if_neg g, if_pos (Classical.byContradiction fun g2 => h ⟨g, g2⟩)] at k
    exact k
/-- what never moves in the class's object -/
def fm_ap : List (Nat × Nat × Nat) := [(8, 0, 9), (8, 1, 10), (8, 2, 15), (8, 3, 16), (8, 4, 60), (8, 5, 66), (8, 6, 69), (10, 0, 11), (10, 1, 12), (10, 2, 13), (10, 3, 14), (15, 0, 90), (15, 1, 214), (15, 2, 338), (15, 3, 462), (9, 0, 82), (9, 1, 84), (9, 2, 86), (9, 3, 88)]
def fm_AP (M : fm_M) : Prop := ∀ q ∈ fm_ap, M.2.2 q.1 q.2.1 = some q.2.2
theorem ap_0 {M : fm_M} (h : fm_AP M) : M.2.2 8 0 = some 9 := h (8, 0, 9) (List.mem_of_getElem? (i := 0) rfl)
theorem ap_1 {M : fm_M} (h : fm_AP M) : M.2.2 8 1 = some 10 := h (8, 1, 10) (List.mem_of_getElem? (i := 1) rfl)
theorem ap_2 {M : fm_M} (h : fm_AP M) : M.2.2 8 2 = some 15 := h (8, 2, 15) (List.mem_of_getElem? (i := 2) rfl)
theorem ap_3 {M : fm_M} (h : fm_AP M) : M.2.2 8 3 = some 16 := h (8, 3, 16) (List.mem_of_getElem? (i := 3) rfl)
theorem ap_four {j : Nat} (hj : j < 4) : j = 0 ∨ j = 1 ∨ j = 2 ∨ j = 3 := by omega
theorem ap_site {M : fm_M} (h : fm_AP M) {j : Nat} (hj : j < 4) : M.2.2 15 j = some (90 + 124 * j) := by
  rcases ap_four hj with rfl | rfl | rfl | rfl
  · exact h (15, 0, 90) (List.mem_of_getElem? (i := 11) rfl)
  · exact h (15, 1, 214) (List.mem_of_getElem? (i := 12) rfl)
  · exact h (15, 2, 338) (List.mem_of_getElem? (i := 13) rfl)
  · exact h (15, 3, 462) (List.mem_of_getElem? (i := 14) rfl)
theorem ly_Si {j : Nat} (hj : j < 4) : (fm_lay (90 + 124 * j)).1 = 8 := by
  rcases ap_four hj with rfl | rfl | rfl | rfl <;> rfl
theorem in4_of {j : Nat} (hj : j < 4) : fm_in 4 (nI j) := by
  rcases ap_four hj with rfl | rfl | rfl | rfl <;> exact ⟨by decide, by decide⟩
theorem in4_to {v : Int32} (h : fm_in 4 v) : ∃ j, j < 4 ∧ v = nI j := by
  obtain ⟨h1, h2⟩ := h
  refine ⟨v.toInt.toNat, ?_, ?_⟩
  · have e1 : (nI 4).toInt = 4 := by decide
    rw [Int32.lt_iff_toInt_lt] at h1
    rw [Int32.le_iff_toInt_le, e1] at h2
    have e0 : (0 : Int32).toInt = 0 := by decide
    omega
  · have e0 : (0 : Int32).toInt = 0 := by decide
    rw [Int32.lt_iff_toInt_lt] at h1
    have h3 : v = Int32.ofInt v.toInt := (Int32.ofInt_toInt v).symm
    have h4 : v.toInt = (v.toInt.toNat : Int) := by omega
    exact h3.trans ((congrArg Int32.ofInt h4).trans (by first | rfl | exact Int32.ofInt_eq_ofNat | simp [nI]))
theorem x_tick_bad {l : Launch} {b : Nat} {x : Nat → Nat} {D : va_G} {dA : Nat → ClassId} (htr : l.stackTraces = false) {v : Int32} {n : Nat} {M : fm_M} (hv : ¬ fm_in 4 v) : MetFree l y_An_tick (headSpec (Cond.code y_An_tick b_An_tick 2 (some .int) :: fm_T0) ({ frames := 6, cells := 1, slots := 6, locals := 90 })) (fm_Pc fm_lay fm_nf fm_fk fm_cl b x D dA (fm_tys dA) (fm_EX b x) false [.ref 8, .int v] n M) (fun _ _ _ _ _ => True) (fx_Q fm_lay fm_nf fm_fk fm_cl b x D dA (fun _ _ _ => False) (fun E n' M' => E = fx_IAE ∧ n' = n ∧ M' = M) 1 6) := by
  refine fx_enter (by decide) (Nat.le_of_ble_eq_true rfl) ?_
  intro p e s m args below meth c hc hr hnm hex htg htab
  refine fm_iload_n hc d_An_tick_0 rfl rfl ?_
  refine fm_callS (av := [.int v]) (rest := []) (y := y_An_isHost) (bytes := b_An_isHost) hc fm_T0_good (fm_EX_st b x) hex q_397 q_1 q_395 q_396 pd_An_isHost (c_An_isHost_no hv) ⟨rfl, rfl, Nat.le_of_ble_eq_true rfl, Nat.le_of_ble_eq_true rfl⟩ ⟨Nat.le_of_ble_eq_true rfl, Nat.le_of_ble_eq_true rfl⟩ d_An_tick_1 (Nat.le_of_ble_eq_true rfl) (fun r n2 M2 hp => ?_)
  obtain ⟨rfl, rfl, rfl⟩ := hp
  refine fm_cnt (z' := (0, 0)) rfl (fm_st (st' := [.int (nI 0)]) rfl ?_)
  refine fm_if_ne (tgt := 15) hc d_An_tick_4 rfl (fun g => absurd rfl g) (fun _ => ?_)
  exact fx_throw hc htr hex.2.2.2.2 (E := fx_IAE) (List.mem_of_getElem? (i := 0) rfl) fx_own_IAE q_489 q_490 q_17 d_An_tick_7 d_An_tick_10 d_An_tick_11 d_An_tick_14 htab (Nat.le_of_ble_eq_true rfl) (Nat.le_of_ble_eq_true rfl) ⟨Nat.le_of_ble_eq_true rfl, Nat.le_of_ble_eq_true rfl, Nat.le_of_ble_eq_true rfl, Nat.le_of_ble_eq_true rfl⟩ ⟨rfl, rfl, rfl⟩
theorem x_checkpoint_bad {l : Launch} {b : Nat} {x : Nat → Nat} {D : va_G} {dA : Nat → ClassId} (htr : l.stackTraces = false) {v : Int32} {n : Nat} {M : fm_M} (hv : ¬ fm_in 4 v) : MetFree l y_An_checkpoint (headSpec (Cond.code y_An_checkpoint b_An_checkpoint 2 (some .int) :: fm_T0) ({ frames := 6, cells := 1, slots := 6, locals := 90 })) (fm_Pc fm_lay fm_nf fm_fk fm_cl b x D dA (fm_tys dA) (fm_EX b x) false [.ref 8, .int v] n M) (fun _ _ _ _ _ => True) (fx_Q fm_lay fm_nf fm_fk fm_cl b x D dA (fun _ _ _ => False) (fun E n' M' => E = fx_IAE ∧ n' = n ∧ M' = M) 1 6) := by
  refine fx_enter (by decide) (Nat.le_of_ble_eq_true rfl) ?_
  intro p e s m args below meth c hc hr hnm hex htg htab
  refine fm_iload_n hc d_An_checkpoint_0 rfl rfl ?_
  refine fm_callS (av := [.int v]) (rest := []) (y := y_An_isHost) (bytes := b_An_isHost) hc fm_T0_good (fm_EX_st b x) hex q_397 q_1 q_395 q_396 pd_An_isHost (c_An_isHost_no hv) ⟨rfl, rfl, Nat.le_of_ble_eq_true rfl, Nat.le_of_ble_eq_true rfl⟩ ⟨Nat.le_of_ble_eq_true rfl, Nat.le_of_ble_eq_true rfl⟩ d_An_checkpoint_1 (Nat.le_of_ble_eq_true rfl) (fun r n2 M2 hp => ?_)
  obtain ⟨rfl, rfl, rfl⟩ := hp
  refine fm_cnt (z' := (0, 0)) rfl (fm_st (st' := [.int (nI 0)]) rfl ?_)
  refine fm_if_ne (tgt := 15) hc d_An_checkpoint_4 rfl (fun g => absurd rfl g) (fun _ => ?_)
  exact fx_throw hc htr hex.2.2.2.2 (E := fx_IAE) (List.mem_of_getElem? (i := 0) rfl) fx_own_IAE q_489 q_490 q_17 d_An_checkpoint_7 d_An_checkpoint_10 d_An_checkpoint_11 d_An_checkpoint_14 htab (Nat.le_of_ble_eq_true rfl) (Nat.le_of_ble_eq_true rfl) ⟨Nat.le_of_ble_eq_true rfl, Nat.le_of_ble_eq_true rfl, Nat.le_of_ble_eq_true rfl, Nat.le_of_ble_eq_true rfl⟩ ⟨rfl, rfl, rfl⟩
theorem x_crash_bad {l : Launch} {b : Nat} {x : Nat → Nat} {D : va_G} {dA : Nat → ClassId} (htr : l.stackTraces = false) {v : Int32} {n : Nat} {M : fm_M} (hv : ¬ fm_in 4 v) : MetFree l y_An_crash (headSpec (Cond.code y_An_crash b_An_crash 2 (some .boolean) :: fm_T0) ({ frames := 6, cells := 1, slots := 6, locals := 90 })) (fm_Pc fm_lay fm_nf fm_fk fm_cl b x D dA (fm_tys dA) (fm_EX b x) false [.ref 8, .int v] n M) (fun _ _ _ _ _ => True) (fx_Q fm_lay fm_nf fm_fk fm_cl b x D dA (fun _ _ _ => False) (fun E n' M' => E = fx_IAE ∧ n' = n ∧ M' = M) 1 6) := by
  refine fx_enter (by decide) (Nat.le_of_ble_eq_true rfl) ?_
  intro p e s m args below meth c hc hr hnm hex htg htab
  refine fm_iload_n hc d_An_crash_0 rfl rfl ?_
  refine fm_callS (av := [.int v]) (rest := []) (y := y_An_isHost) (bytes := b_An_isHost) hc fm_T0_good (fm_EX_st b x) hex q_397 q_1 q_395 q_396 pd_An_isHost (c_An_isHost_no hv) ⟨rfl, rfl, Nat.le_of_ble_eq_true rfl, Nat.le_of_ble_eq_true rfl⟩ ⟨Nat.le_of_ble_eq_true rfl, Nat.le_of_ble_eq_true rfl⟩ d_An_crash_1 (Nat.le_of_ble_eq_true rfl) (fun r n2 M2 hp => ?_)
  obtain ⟨rfl, rfl, rfl⟩ := hp
  refine fm_cnt (z' := (0, 0)) rfl (fm_st (st' := [.int (nI 0)]) rfl ?_)
  refine fm_if_ne (tgt := 15) hc d_An_crash_4 rfl (fun g => absurd rfl g) (fun _ => ?_)
  exact fx_throw hc htr hex.2.2.2.2 (E := fx_IAE) (List.mem_of_getElem? (i := 0) rfl) fx_own_IAE q_489 q_490 q_17 d_An_crash_7 d_An_crash_10 d_An_crash_11 d_An_crash_14 htab (Nat.le_of_ble_eq_true rfl) (Nat.le_of_ble_eq_true rfl) ⟨Nat.le_of_ble_eq_true rfl, Nat.le_of_ble_eq_true rfl, Nat.le_of_ble_eq_true rfl, Nat.le_of_ble_eq_true rfl⟩ ⟨rfl, rfl, rfl⟩
theorem x_start_bad {l : Launch} {b : Nat} {x : Nat → Nat} {D : va_G} {dA : Nat → ClassId} (htr : l.stackTraces = false) {v : Int32} {n : Nat} {M : fm_M} (hv : ¬ fm_in 4 v) : MetFree l y_An_start (headSpec (Cond.code y_An_start b_An_start 2 (some .boolean) :: fm_T0) ({ frames := 6, cells := 1, slots := 6, locals := 90 })) (fm_Pc fm_lay fm_nf fm_fk fm_cl b x D dA (fm_tys dA) (fm_EX b x) false [.ref 8, .int v] n M) (fun _ _ _ _ _ => True) (fx_Q fm_lay fm_nf fm_fk fm_cl b x D dA (fun _ _ _ => False) (fun E n' M' => E = fx_IAE ∧ n' = n ∧ M' = M) 1 6) := by
  refine fx_enter (by decide) (Nat.le_of_ble_eq_true rfl) ?_
  intro p e s m args below meth c hc hr hnm hex htg htab
  refine fm_iload_n hc d_An_start_0 rfl rfl ?_
  refine fm_callS (av := [.int v]) (rest := []) (y := y_An_isHost) (bytes := b_An_isHost) hc fm_T0_good (fm_EX_st b x) hex q_397 q_1 q_395 q_396 pd_An_isHost (c_An_isHost_no hv) ⟨rfl, rfl, Nat.le_of_ble_eq_true rfl, Nat.le_of_ble_eq_true rfl⟩ ⟨Nat.le_of_ble_eq_true rfl, Nat.le_of_ble_eq_true rfl⟩ d_An_start_1 (Nat.le_of_ble_eq_true rfl) (fun r n2 M2 hp => ?_)
  obtain ⟨rfl, rfl, rfl⟩ := hp
  refine fm_cnt (z' := (0, 0)) rfl (fm_st (st' := [.int (nI 0)]) rfl ?_)
  refine fm_if_ne (tgt := 15) hc d_An_start_4 rfl (fun g => absurd rfl g) (fun _ => ?_)
  exact fx_throw hc htr hex.2.2.2.2 (E := fx_IAE) (List.mem_of_getElem? (i := 0) rfl) fx_own_IAE q_489 q_490 q_17 d_An_start_7 d_An_start_10 d_An_start_11 d_An_start_14 htab (Nat.le_of_ble_eq_true rfl) (Nat.le_of_ble_eq_true rfl) ⟨Nat.le_of_ble_eq_true rfl, Nat.le_of_ble_eq_true rfl, Nat.le_of_ble_eq_true rfl, Nat.le_of_ble_eq_true rfl⟩ ⟨rfl, rfl, rfl⟩
theorem x_step_bad {l : Launch} {b : Nat} {x : Nat → Nat} {D : va_G} {dA : Nat → ClassId} (htr : l.stackTraces = false) {v w : Int32} {n : Nat} {M : fm_M} (hb : ¬ (fm_in 4 v ∧ ¬ w < nI 1 ∧ w ≤ nI 40)) : MetFree l y_An_step (headSpec (Cond.code y_An_step b_An_step 5 (some .int) :: fm_T0) ({ frames := 6, cells := 1, slots := 6, locals := 90 })) (fm_Pc fm_lay fm_nf fm_fk fm_cl b x D dA (fm_tys dA) (fm_EX b x) false [.ref 8, .int v, .int w] n M) (fun _ _ _ _ _ => True) (fx_Q fm_lay fm_nf fm_fk fm_cl b x D dA (fun _ _ _ => False) (fun E n' M' => E = fx_IAE ∧ n' = n ∧ M' = M) 1 6) := by
  refine fx_enter (by decide) (Nat.le_of_ble_eq_true rfl) ?_
  intro p e s m args below meth c hc hr hnm hex htg htab
  refine fm_iload_n hc d_An_step_0 rfl rfl ?_
  by_cases g0 : fm_in 4 v
  · refine fm_callS (av := [.int v]) (rest := []) (y := y_An_isHost) (bytes := b_An_isHost) hc fm_T0_good (fm_EX_st b x) hex q_397 q_1 q_395 q_396 pd_An_isHost (c_An_isHost_ok g0) ⟨rfl, rfl, Nat.le_of_ble_eq_true rfl, Nat.le_of_ble_eq_true rfl⟩ ⟨Nat.le_of_ble_eq_true rfl, Nat.le_of_ble_eq_true rfl⟩ d_An_step_1 (Nat.le_of_ble_eq_true rfl) (fun r n2 M2 hp => ?_)
    obtain ⟨rfl, rfl, rfl⟩ := hp
    refine fm_cnt (z' := (0, 0)) rfl (fm_st (st' := [.int (nI 1)]) rfl ?_)
    refine fm_if_eq (tgt := 18) hc d_An_step_4 rfl (fun g => absurd g (by decide)) (fun _ => ?_)
    refine fm_iload_n hc d_An_step_7 rfl rfl ?_
    refine fm_iconst (v := nI 1) hc d_An_step_8 rfl ?_
    refine fm_icmp_lt (tgt := 18) hc d_An_step_9 rfl (fun g1 => ?_) (fun g1 => ?_)
    · exact fx_throw hc htr hex.2.2.2.2 (E := fx_IAE) (List.mem_of_getElem? (i := 0) rfl) fx_own_IAE q_489 q_490 q_17 d_An_step_18 d_An_step_21 d_An_step_22 d_An_step_25 htab (Nat.le_of_ble_eq_true rfl) (Nat.le_of_ble_eq_true rfl) ⟨Nat.le_of_ble_eq_true rfl, Nat.le_of_ble_eq_true rfl, Nat.le_of_ble_eq_true rfl, Nat.le_of_ble_eq_true rfl⟩ ⟨rfl, rfl, rfl⟩
    · refine fm_iload_n hc d_An_step_12 rfl rfl ?_
      refine fm_bipush (v := nI 40) hc d_An_step_13 rfl ?_
      refine fm_icmp_le (tgt := 26) hc d_An_step_15 rfl (fun g2 => ?_) (fun g2 => ?_)
      · exact absurd ⟨g0, g1, g2⟩ hb
      · exact fx_throw hc htr hex.2.2.2.2 (E := fx_IAE) (List.mem_of_getElem? (i := 0) rfl) fx_own_IAE q_489 q_490 q_17 d_An_step_18 d_An_step_21 d_An_step_22 d_An_step_25 htab (Nat.le_of_ble_eq_true rfl) (Nat.le_of_ble_eq_true rfl) ⟨Nat.le_of_ble_eq_true rfl, Nat.le_of_ble_eq_true rfl, Nat.le_of_ble_eq_true rfl, Nat.le_of_ble_eq_true rfl⟩ ⟨rfl, rfl, rfl⟩
  · refine fm_callS (av := [.int v]) (rest := []) (y := y_An_isHost) (bytes := b_An_isHost) hc fm_T0_good (fm_EX_st b x) hex q_397 q_1 q_395 q_396 pd_An_isHost (c_An_isHost_no g0) ⟨rfl, rfl, Nat.le_of_ble_eq_true rfl, Nat.le_of_ble_eq_true rfl⟩ ⟨Nat.le_of_ble_eq_true rfl, Nat.le_of_ble_eq_true rfl⟩ d_An_step_1 (Nat.le_of_ble_eq_true rfl) (fun r n2 M2 hp => ?_)
    obtain ⟨rfl, rfl, rfl⟩ := hp
    refine fm_cnt (z' := (0, 0)) rfl (fm_st (st' := [.int (nI 0)]) rfl ?_)
    refine fm_if_eq (tgt := 18) hc d_An_step_4 rfl (fun _ => ?_) (fun g => absurd rfl g)
    exact fx_throw hc htr hex.2.2.2.2 (E := fx_IAE) (List.mem_of_getElem? (i := 0) rfl) fx_own_IAE q_489 q_490 q_17 d_An_step_18 d_An_step_21 d_An_step_22 d_An_step_25 htab (Nat.le_of_ble_eq_true rfl) (Nat.le_of_ble_eq_true rfl) ⟨Nat.le_of_ble_eq_true rfl, Nat.le_of_ble_eq_true rfl, Nat.le_of_ble_eq_true rfl, Nat.le_of_ble_eq_true rfl⟩ ⟨rfl, rfl, rfl⟩
theorem x_write_bad {l : Launch} {b : Nat} {x : Nat → Nat} {D : va_G} {dA : Nat → ClassId} (htr : l.stackTraces = false) {v w : Int32} {n : Nat} {M : fm_M} (hb : ¬ (fm_in 4 v ∧ nI 1 ≤ w)) : MetFree l y_An_write (headSpec (Cond.code y_An_write b_An_write 4 (some .int) :: fm_T0) ({ frames := 6, cells := 1, slots := 6, locals := 90 })) (fm_Pc fm_lay fm_nf fm_fk fm_cl b x D dA (fm_tys dA) (fm_EX b x) false [.ref 8, .int v, .int w] n M) (fun _ _ _ _ _ => True) (fx_Q fm_lay fm_nf fm_fk fm_cl b x D dA (fun _ _ _ => False) (fun E n' M' => E = fx_IAE ∧ n' = n ∧ M' = M) 1 6) := by
  refine fx_enter (by decide) (Nat.le_of_ble_eq_true rfl) ?_
  intro p e s m args below meth c hc hr hnm hex htg htab
  refine fm_iload_n hc d_An_write_0 rfl rfl ?_
  by_cases g3 : fm_in 4 v
  · refine fm_callS (av := [.int v]) (rest := []) (y := y_An_isHost) (bytes := b_An_isHost) hc fm_T0_good (fm_EX_st b x) hex q_397 q_1 q_395 q_396 pd_An_isHost (c_An_isHost_ok g3) ⟨rfl, rfl, Nat.le_of_ble_eq_true rfl, Nat.le_of_ble_eq_true rfl⟩ ⟨Nat.le_of_ble_eq_true rfl, Nat.le_of_ble_eq_true rfl⟩ d_An_write_1 (Nat.le_of_ble_eq_true rfl) (fun r n2 M2 hp => ?_)
    obtain ⟨rfl, rfl, rfl⟩ := hp
    refine fm_cnt (z' := (0, 0)) rfl (fm_st (st' := [.int (nI 1)]) rfl ?_)
    refine fm_if_eq (tgt := 12) hc d_An_write_4 rfl (fun g => absurd g (by decide)) (fun _ => ?_)
    refine fm_iload_n hc d_An_write_7 rfl rfl ?_
    refine fm_iconst (v := nI 1) hc d_An_write_8 rfl ?_
    refine fm_icmp_ge (tgt := 20) hc d_An_write_9 rfl (fun g4 => ?_) (fun g4 => ?_)
    · exact absurd ⟨g3, g4⟩ hb
    · exact fx_throw hc htr hex.2.2.2.2 (E := fx_IAE) (List.mem_of_getElem? (i := 0) rfl) fx_own_IAE q_489 q_490 q_17 d_An_write_12 d_An_write_15 d_An_write_16 d_An_write_19 htab (Nat.le_of_ble_eq_true rfl) (Nat.le_of_ble_eq_true rfl) ⟨Nat.le_of_ble_eq_true rfl, Nat.le_of_ble_eq_true rfl, Nat.le_of_ble_eq_true rfl, Nat.le_of_ble_eq_true rfl⟩ ⟨rfl, rfl, rfl⟩
  · refine fm_callS (av := [.int v]) (rest := []) (y := y_An_isHost) (bytes := b_An_isHost) hc fm_T0_good (fm_EX_st b x) hex q_397 q_1 q_395 q_396 pd_An_isHost (c_An_isHost_no g3) ⟨rfl, rfl, Nat.le_of_ble_eq_true rfl, Nat.le_of_ble_eq_true rfl⟩ ⟨Nat.le_of_ble_eq_true rfl, Nat.le_of_ble_eq_true rfl⟩ d_An_write_1 (Nat.le_of_ble_eq_true rfl) (fun r n2 M2 hp => ?_)
    obtain ⟨rfl, rfl, rfl⟩ := hp
    refine fm_cnt (z' := (0, 0)) rfl (fm_st (st' := [.int (nI 0)]) rfl ?_)
    refine fm_if_eq (tgt := 12) hc d_An_write_4 rfl (fun _ => ?_) (fun g => absurd rfl g)
    exact fx_throw hc htr hex.2.2.2.2 (E := fx_IAE) (List.mem_of_getElem? (i := 0) rfl) fx_own_IAE q_489 q_490 q_17 d_An_write_12 d_An_write_15 d_An_write_16 d_An_write_19 htab (Nat.le_of_ble_eq_true rfl) (Nat.le_of_ble_eq_true rfl) ⟨Nat.le_of_ble_eq_true rfl, Nat.le_of_ble_eq_true rfl, Nat.le_of_ble_eq_true rfl, Nat.le_of_ble_eq_true rfl⟩ ⟨rfl, rfl, rfl⟩
theorem x_launch_bad {l : Launch} {b : Nat} {x : Nat → Nat} {D : va_G} {dA : Nat → ClassId} (htr : l.stackTraces = false) {v w u : Int32} {n : Nat} {M : fm_M} (hb : ¬ (fm_in 4 v ∧ fm_in 4 w ∧ ¬ u < nI 1 ∧ u ≤ nI 200)) : MetFree l y_An_launch (headSpec (Cond.code y_An_launch b_An_launch 6 (some .int) :: fm_T0) ({ frames := 6, cells := 1, slots := 6, locals := 90 })) (fm_Pc fm_lay fm_nf fm_fk fm_cl b x D dA (fm_tys dA) (fm_EX b x) false [.ref 8, .int v, .int w, .int u] n M) (fun _ _ _ _ _ => True) (fx_Q fm_lay fm_nf fm_fk fm_cl b x D dA (fun _ _ _ => False) (fun E n' M' => E = fx_IAE ∧ n' = n ∧ M' = M) 1 6) := by
  refine fx_enter (by decide) (Nat.le_of_ble_eq_true rfl) ?_
  intro p e s m args below meth c hc hr hnm hex htg htab
  refine fm_iload_n hc d_An_launch_0 rfl rfl ?_
  by_cases g5 : fm_in 4 v
  · refine fm_callS (av := [.int v]) (rest := []) (y := y_An_isHost) (bytes := b_An_isHost) hc fm_T0_good (fm_EX_st b x) hex q_397 q_1 q_395 q_396 pd_An_isHost (c_An_isHost_ok g5) ⟨rfl, rfl, Nat.le_of_ble_eq_true rfl, Nat.le_of_ble_eq_true rfl⟩ ⟨Nat.le_of_ble_eq_true rfl, Nat.le_of_ble_eq_true rfl⟩ d_An_launch_1 (Nat.le_of_ble_eq_true rfl) (fun r n2 M2 hp => ?_)
    obtain ⟨rfl, rfl, rfl⟩ := hp
    refine fm_cnt (z' := (0, 0)) rfl (fm_st (st' := [.int (nI 1)]) rfl ?_)
    refine fm_if_eq (tgt := 26) hc d_An_launch_4 rfl (fun g => absurd g (by decide)) (fun _ => ?_)
    refine fm_iload_n hc d_An_launch_7 rfl rfl ?_
    by_cases g6 : fm_in 4 w
    · refine fm_callS (av := [.int w]) (rest := []) (y := y_An_isProgram) (bytes := b_An_isProgram) hc fm_T0_good (fm_EX_st b x) hex q_386 q_1 q_384 q_385 pd_An_isProgram (c_An_isProgram_ok g6) ⟨rfl, rfl, Nat.le_of_ble_eq_true rfl, Nat.le_of_ble_eq_true rfl⟩ ⟨Nat.le_of_ble_eq_true rfl, Nat.le_of_ble_eq_true rfl⟩ d_An_launch_8 (Nat.le_of_ble_eq_true rfl) (fun r n2 M2 hp => ?_)
      obtain ⟨rfl, rfl, rfl⟩ := hp
      refine fm_cnt (z' := (0, 0)) rfl (fm_st (st' := [.int (nI 1)]) rfl ?_)
      refine fm_if_eq (tgt := 26) hc d_An_launch_11 rfl (fun g => absurd g (by decide)) (fun _ => ?_)
      refine fm_iload_n hc d_An_launch_14 rfl rfl ?_
      refine fm_iconst (v := nI 1) hc d_An_launch_15 rfl ?_
      refine fm_icmp_lt (tgt := 26) hc d_An_launch_16 rfl (fun g7 => ?_) (fun g7 => ?_)
      · exact fx_throw hc htr hex.2.2.2.2 (E := fx_IAE) (List.mem_of_getElem? (i := 0) rfl) fx_own_IAE q_489 q_490 q_17 d_An_launch_26 d_An_launch_29 d_An_launch_30 d_An_launch_33 htab (Nat.le_of_ble_eq_true rfl) (Nat.le_of_ble_eq_true rfl) ⟨Nat.le_of_ble_eq_true rfl, Nat.le_of_ble_eq_true rfl, Nat.le_of_ble_eq_true rfl, Nat.le_of_ble_eq_true rfl⟩ ⟨rfl, rfl, rfl⟩
      · refine fm_iload_n hc d_An_launch_19 rfl rfl ?_
        refine fm_sipush (v := nI 200) hc d_An_launch_20 rfl ?_
        refine fm_icmp_le (tgt := 34) hc d_An_launch_23 rfl (fun g8 => ?_) (fun g8 => ?_)
        · exact absurd ⟨g5, g6, g7, g8⟩ hb
        · exact fx_throw hc htr hex.2.2.2.2 (E := fx_IAE) (List.mem_of_getElem? (i := 0) rfl) fx_own_IAE q_489 q_490 q_17 d_An_launch_26 d_An_launch_29 d_An_launch_30 d_An_launch_33 htab (Nat.le_of_ble_eq_true rfl) (Nat.le_of_ble_eq_true rfl) ⟨Nat.le_of_ble_eq_true rfl, Nat.le_of_ble_eq_true rfl, Nat.le_of_ble_eq_true rfl, Nat.le_of_ble_eq_true rfl⟩ ⟨rfl, rfl, rfl⟩
    · refine fm_callS (av := [.int w]) (rest := []) (y := y_An_isProgram) (bytes := b_An_isProgram) hc fm_T0_good (fm_EX_st b x) hex q_386 q_1 q_384 q_385 pd_An_isProgram (c_An_isProgram_no g6) ⟨rfl, rfl, Nat.le_of_ble_eq_true rfl, Nat.le_of_ble_eq_true rfl⟩ ⟨Nat.le_of_ble_eq_true rfl, Nat.le_of_ble_eq_true rfl⟩ d_An_launch_8 (Nat.le_of_ble_eq_true rfl) (fun r n2 M2 hp => ?_)
      obtain ⟨rfl, rfl, rfl⟩ := hp
      refine fm_cnt (z' := (0, 0)) rfl (fm_st (st' := [.int (nI 0)]) rfl ?_)
      refine fm_if_eq (tgt := 26) hc d_An_launch_11 rfl (fun _ => ?_) (fun g => absurd rfl g)
      exact fx_throw hc htr hex.2.2.2.2 (E := fx_IAE) (List.mem_of_getElem? (i := 0) rfl) fx_own_IAE q_489 q_490 q_17 d_An_launch_26 d_An_launch_29 d_An_launch_30 d_An_launch_33 htab (Nat.le_of_ble_eq_true rfl) (Nat.le_of_ble_eq_true rfl) ⟨Nat.le_of_ble_eq_true rfl, Nat.le_of_ble_eq_true rfl, Nat.le_of_ble_eq_true rfl, Nat.le_of_ble_eq_true rfl⟩ ⟨rfl, rfl, rfl⟩
  · refine fm_callS (av := [.int v]) (rest := []) (y := y_An_isHost) (bytes := b_An_isHost) hc fm_T0_good (fm_EX_st b x) hex q_397 q_1 q_395 q_396 pd_An_isHost (c_An_isHost_no g5) ⟨rfl, rfl, Nat.le_of_ble_eq_true rfl, Nat.le_of_ble_eq_true rfl⟩ ⟨Nat.le_of_ble_eq_true rfl, Nat.le_of_ble_eq_true rfl⟩ d_An_launch_1 (Nat.le_of_ble_eq_true rfl) (fun r n2 M2 hp => ?_)
    obtain ⟨rfl, rfl, rfl⟩ := hp
    refine fm_cnt (z' := (0, 0)) rfl (fm_st (st' := [.int (nI 0)]) rfl ?_)
    refine fm_if_eq (tgt := 26) hc d_An_launch_4 rfl (fun _ => ?_) (fun g => absurd rfl g)
    exact fx_throw hc htr hex.2.2.2.2 (E := fx_IAE) (List.mem_of_getElem? (i := 0) rfl) fx_own_IAE q_489 q_490 q_17 d_An_launch_26 d_An_launch_29 d_An_launch_30 d_An_launch_33 htab (Nat.le_of_ble_eq_true rfl) (Nat.le_of_ble_eq_true rfl) ⟨Nat.le_of_ble_eq_true rfl, Nat.le_of_ble_eq_true rfl, Nat.le_of_ble_eq_true rfl, Nat.le_of_ble_eq_true rfl⟩ ⟨rfl, rfl, rfl⟩
theorem x_net_bad {l : Launch} {b : Nat} {x : Nat → Nat} {D : va_G} {dA : Nat → ClassId} (htr : l.stackTraces = false) {v w : Int32} {n : Nat} {M : fm_M} (hw : ¬ w = 0 ∧ ¬ w = nI 1 ∧ ¬ w = nI 2) : MetFree l y_An_net (headSpec (Cond.code y_An_net b_An_net 4 (some .int) :: fm_T0) ({ frames := 6, cells := 1, slots := 6, locals := 90 })) (fm_Pc fm_lay fm_nf fm_fk fm_cl b x D dA (fm_tys dA) (fm_EX b x) false [.ref 8, .int v, .int w] n M) (fun _ _ _ _ _ => True) (fx_Q fm_lay fm_nf fm_fk fm_cl b x D dA (fun _ _ _ => False) (fun E n' M' => E = fx_IAE ∧ n' = n ∧ M' = M) 1 6) := by
  refine fx_enter (by decide) (Nat.le_of_ble_eq_true rfl) ?_
  intro p e s m args below meth c hc hr hnm hex htg htab
  refine fm_iload_n hc d_An_net_0 rfl rfl ?_
  refine fm_if_eq (tgt := 22) hc d_An_net_1 rfl (fun g => absurd g hw.1) (fun _ => ?_)
  refine fm_iload_n hc d_An_net_4 rfl rfl ?_
  refine fm_iconst (v := nI 1) hc d_An_net_5 rfl ?_
  refine fm_icmp_eq (tgt := 22) hc d_An_net_6 rfl (fun g => absurd g hw.2.1) (fun _ => ?_)
  refine fm_iload_n hc d_An_net_9 rfl rfl ?_
  refine fm_iconst (v := nI 2) hc d_An_net_10 rfl ?_
  refine fm_icmp_eq (tgt := 22) hc d_An_net_11 rfl (fun g => absurd g hw.2.2) (fun _ => ?_)
  exact fx_throw hc htr hex.2.2.2.2 (E := fx_IAE) (List.mem_of_getElem? (i := 0) rfl) fx_own_IAE q_489 q_490 q_17 d_An_net_14 d_An_net_17 d_An_net_18 d_An_net_21 htab (Nat.le_of_ble_eq_true rfl) (Nat.le_of_ble_eq_true rfl) ⟨Nat.le_of_ble_eq_true rfl, Nat.le_of_ble_eq_true rfl, Nat.le_of_ble_eq_true rfl, Nat.le_of_ble_eq_true rfl⟩ ⟨rfl, rfl, rfl⟩
theorem x_tick_down {l : Launch} {b : Nat} {x : Nat → Nat} {D : va_G} {dA : Nat → ClassId} (htr : l.stackTraces = false) {j : Nat} {n : Nat} {M : fm_M} (hj : j < 4) (hn : 586 ≤ n) (hA : fm_AP M) (hu : M.1 (90 + 124 * j) 1 = 0) : MetFree l y_An_tick (headSpec (Cond.code y_An_tick b_An_tick 2 (some .int) :: fm_T0) ({ frames := 6, cells := 1, slots := 6, locals := 90 })) (fm_Pc fm_lay fm_nf fm_fk fm_cl b x D dA (fm_tys dA) (fm_EX b x) false [.ref 8, .int (nI j)] n M) (fun _ _ _ _ _ => True) (fx_Q fm_lay fm_nf fm_fk fm_cl b x D dA (fun _ _ _ => False) (fun E n' M' => E = fx_ISE ∧ n' = n ∧ M' = M) 1 6) := by
  refine fx_enter (by decide) (Nat.le_of_ble_eq_true rfl) ?_
  intro p e s m args below meth c hc hr hnm hex htg htab
  refine fm_iload_n hc d_An_tick_0 rfl rfl ?_
  refine fm_callS (av := [.int (nI j)]) (rest := []) (y := y_An_isHost) (bytes := b_An_isHost) hc fm_T0_good (fm_EX_st b x) hex q_397 q_1 q_395 q_396 pd_An_isHost (c_An_isHost_ok (in4_of hj)) ⟨rfl, rfl, Nat.le_of_ble_eq_true rfl, Nat.le_of_ble_eq_true rfl⟩ ⟨Nat.le_of_ble_eq_true rfl, Nat.le_of_ble_eq_true rfl⟩ d_An_tick_1 (Nat.le_of_ble_eq_true rfl) (fun r n2 M2 hp => ?_)
  obtain ⟨rfl, rfl, rfl⟩ := hp
  refine fm_cnt (z' := (0, 0)) rfl (fm_st (st' := [.int (nI 1)]) rfl ?_)
  refine fm_if_ne (tgt := 15) hc d_An_tick_4 rfl (fun _ => ?_) (fun g => absurd g (by decide))
  refine fm_aload_n hc d_An_tick_15 rfl rfl ?_
  refine fm_getR (k := 2) (q := 15) hc K_An d_An_tick_16 q_357 rfl (by decide) (by omega) (by decide) (by decide) (by decide) rfl (ap_2 hA) ?_
  refine fm_iload_n hc d_An_tick_19 rfl rfl ?_
  refine fm_aald (q := 90 + 124 * j) (j := j) (len := 4) hc 5 d_An_tick_20 (by decide) (by omega) (by decide) (by decide) rfl (by omega) (by decide) (ap_site hA hj) ?_
  refine fm_getI (k := 1) hc K_Si d_An_tick_21 q_334 rfl (by omega) (by omega) (ly_Si hj) (by decide) (by decide) rfl ?_
  refine fm_if_ne (tgt := 35) hc d_An_tick_24 rfl (fun g => absurd hu g) (fun _ => ?_)
  exact fx_throw hc htr hex.2.2.2.2 (E := fx_ISE) (List.mem_of_getElem? (i := 1) rfl) fx_own_ISE q_552 q_553 q_18 d_An_tick_27 d_An_tick_30 d_An_tick_31 d_An_tick_34 htab (Nat.le_of_ble_eq_true rfl) (Nat.le_of_ble_eq_true rfl) ⟨Nat.le_of_ble_eq_true rfl, Nat.le_of_ble_eq_true rfl, Nat.le_of_ble_eq_true rfl, Nat.le_of_ble_eq_true rfl⟩ ⟨rfl, rfl, rfl⟩
theorem x_checkpoint_down {l : Launch} {b : Nat} {x : Nat → Nat} {D : va_G} {dA : Nat → ClassId} (htr : l.stackTraces = false) {j : Nat} {n : Nat} {M : fm_M} (hj : j < 4) (hn : 586 ≤ n) (hA : fm_AP M) (hu : M.1 (90 + 124 * j) 1 = 0) : MetFree l y_An_checkpoint (headSpec (Cond.code y_An_checkpoint b_An_checkpoint 2 (some .int) :: fm_T0) ({ frames := 6, cells := 1, slots := 6, locals := 90 })) (fm_Pc fm_lay fm_nf fm_fk fm_cl b x D dA (fm_tys dA) (fm_EX b x) false [.ref 8, .int (nI j)] n M) (fun _ _ _ _ _ => True) (fx_Q fm_lay fm_nf fm_fk fm_cl b x D dA (fun _ _ _ => False) (fun E n' M' => E = fx_ISE ∧ n' = n ∧ M' = M) 1 6) := by
  refine fx_enter (by decide) (Nat.le_of_ble_eq_true rfl) ?_
  intro p e s m args below meth c hc hr hnm hex htg htab
  refine fm_iload_n hc d_An_checkpoint_0 rfl rfl ?_
  refine fm_callS (av := [.int (nI j)]) (rest := []) (y := y_An_isHost) (bytes := b_An_isHost) hc fm_T0_good (fm_EX_st b x) hex q_397 q_1 q_395 q_396 pd_An_isHost (c_An_isHost_ok (in4_of hj)) ⟨rfl, rfl, Nat.le_of_ble_eq_true rfl, Nat.le_of_ble_eq_true rfl⟩ ⟨Nat.le_of_ble_eq_true rfl, Nat.le_of_ble_eq_true rfl⟩ d_An_checkpoint_1 (Nat.le_of_ble_eq_true rfl) (fun r n2 M2 hp => ?_)
  obtain ⟨rfl, rfl, rfl⟩ := hp
  refine fm_cnt (z' := (0, 0)) rfl (fm_st (st' := [.int (nI 1)]) rfl ?_)
  refine fm_if_ne (tgt := 15) hc d_An_checkpoint_4 rfl (fun _ => ?_) (fun g => absurd g (by decide))
  refine fm_aload_n hc d_An_checkpoint_15 rfl rfl ?_
  refine fm_getR (k := 2) (q := 15) hc K_An d_An_checkpoint_16 q_357 rfl (by decide) (by omega) (by decide) (by decide) (by decide) rfl (ap_2 hA) ?_
  refine fm_iload_n hc d_An_checkpoint_19 rfl rfl ?_
  refine fm_aald (q := 90 + 124 * j) (j := j) (len := 4) hc 5 d_An_checkpoint_20 (by decide) (by omega) (by decide) (by decide) rfl (by omega) (by decide) (ap_site hA hj) ?_
  refine fm_getI (k := 1) hc K_Si d_An_checkpoint_21 q_334 rfl (by omega) (by omega) (ly_Si hj) (by decide) (by decide) rfl ?_
  refine fm_if_eq (tgt := 39) hc d_An_checkpoint_24 rfl (fun _ => ?_) (fun g => absurd hu g)
  exact fx_throw hc htr hex.2.2.2.2 (E := fx_ISE) (List.mem_of_getElem? (i := 1) rfl) fx_own_ISE q_552 q_553 q_18 d_An_checkpoint_39 d_An_checkpoint_42 d_An_checkpoint_43 d_An_checkpoint_46 htab (Nat.le_of_ble_eq_true rfl) (Nat.le_of_ble_eq_true rfl) ⟨Nat.le_of_ble_eq_true rfl, Nat.le_of_ble_eq_true rfl, Nat.le_of_ble_eq_true rfl, Nat.le_of_ble_eq_true rfl⟩ ⟨rfl, rfl, rfl⟩
theorem x_crash_idle {l : Launch} {b : Nat} {x : Nat → Nat} {D : va_G} {dA : Nat → ClassId} (htr : l.stackTraces = false) {j : Nat} {n : Nat} {M : fm_M} (hj : j < 4) (hn : 586 ≤ n) (hA : fm_AP M) (hu : M.1 (90 + 124 * j) 1 = 0) : MetFree l y_An_crash (headSpec (Cond.code y_An_crash b_An_crash 2 (some .boolean) :: fm_T0) ({ frames := 6, cells := 1, slots := 6, locals := 90 })) (fm_Pc fm_lay fm_nf fm_fk fm_cl b x D dA (fm_tys dA) (fm_EX b x) false [.ref 8, .int (nI j)] n M) (fun _ _ _ _ _ => True) (fx_Q fm_lay fm_nf fm_fk fm_cl b x D dA (fun r n' M' => r = some (.int (nI 0)) ∧ n' = n ∧ M' = M) (fun _ _ _ => False) 1 6) := by
  refine fx_enter (by decide) (Nat.le_of_ble_eq_true rfl) ?_
  intro p e s m args below meth c hc hr hnm hex htg htab
  refine fm_iload_n hc d_An_crash_0 rfl rfl ?_
  refine fm_callS (av := [.int (nI j)]) (rest := []) (y := y_An_isHost) (bytes := b_An_isHost) hc fm_T0_good (fm_EX_st b x) hex q_397 q_1 q_395 q_396 pd_An_isHost (c_An_isHost_ok (in4_of hj)) ⟨rfl, rfl, Nat.le_of_ble_eq_true rfl, Nat.le_of_ble_eq_true rfl⟩ ⟨Nat.le_of_ble_eq_true rfl, Nat.le_of_ble_eq_true rfl⟩ d_An_crash_1 (Nat.le_of_ble_eq_true rfl) (fun r n2 M2 hp => ?_)
  obtain ⟨rfl, rfl, rfl⟩ := hp
  refine fm_cnt (z' := (0, 0)) rfl (fm_st (st' := [.int (nI 1)]) rfl ?_)
  refine fm_if_ne (tgt := 15) hc d_An_crash_4 rfl (fun _ => ?_) (fun g => absurd g (by decide))
  refine fm_aload_n hc d_An_crash_15 rfl rfl ?_
  refine fm_getR (k := 2) (q := 15) hc K_An d_An_crash_16 q_357 rfl (by decide) (by omega) (by decide) (by decide) (by decide) rfl (ap_2 hA) ?_
  refine fm_iload_n hc d_An_crash_19 rfl rfl ?_
  refine fm_aald (q := 90 + 124 * j) (j := j) (len := 4) hc 5 d_An_crash_20 (by decide) (by omega) (by decide) (by decide) rfl (by omega) (by decide) (ap_site hA hj) ?_
  refine fm_getI (k := 1) hc K_Si d_An_crash_21 q_334 rfl (by omega) (by omega) (ly_Si hj) (by decide) (by decide) rfl ?_
  refine fm_if_ne (tgt := 29) hc d_An_crash_24 rfl (fun g => absurd hu g) (fun _ => ?_)
  refine fm_iconst (v := nI 0) hc d_An_crash_27 rfl ?_
  exact fx_ret (fm_zret (ty := .boolean) hc hr (by first | rfl | decide) d_An_crash_28 (Nat.le_of_ble_eq_true rfl) (Nat.le_of_ble_eq_true rfl) ⟨rfl, rfl, rfl⟩)
theorem x_start_idle {l : Launch} {b : Nat} {x : Nat → Nat} {D : va_G} {dA : Nat → ClassId} (htr : l.stackTraces = false) {j : Nat} {n : Nat} {M : fm_M} (hj : j < 4) (hn : 586 ≤ n) (hA : fm_AP M) (hu : ¬ M.1 (90 + 124 * j) 1 = 0) : MetFree l y_An_start (headSpec (Cond.code y_An_start b_An_start 2 (some .boolean) :: fm_T0) ({ frames := 6, cells := 1, slots := 6, locals := 90 })) (fm_Pc fm_lay fm_nf fm_fk fm_cl b x D dA (fm_tys dA) (fm_EX b x) false [.ref 8, .int (nI j)] n M) (fun _ _ _ _ _ => True) (fx_Q fm_lay fm_nf fm_fk fm_cl b x D dA (fun r n' M' => r = some (.int (nI 0)) ∧ n' = n ∧ M' = M) (fun _ _ _ => False) 1 6) := by
  refine fx_enter (by decide) (Nat.le_of_ble_eq_true rfl) ?_
  intro p e s m args below meth c hc hr hnm hex htg htab
  refine fm_iload_n hc d_An_start_0 rfl rfl ?_
  refine fm_callS (av := [.int (nI j)]) (rest := []) (y := y_An_isHost) (bytes := b_An_isHost) hc fm_T0_good (fm_EX_st b x) hex q_397 q_1 q_395 q_396 pd_An_isHost (c_An_isHost_ok (in4_of hj)) ⟨rfl, rfl, Nat.le_of_ble_eq_true rfl, Nat.le_of_ble_eq_true rfl⟩ ⟨Nat.le_of_ble_eq_true rfl, Nat.le_of_ble_eq_true rfl⟩ d_An_start_1 (Nat.le_of_ble_eq_true rfl) (fun r n2 M2 hp => ?_)
  obtain ⟨rfl, rfl, rfl⟩ := hp
  refine fm_cnt (z' := (0, 0)) rfl (fm_st (st' := [.int (nI 1)]) rfl ?_)
  refine fm_if_ne (tgt := 15) hc d_An_start_4 rfl (fun _ => ?_) (fun g => absurd g (by decide))
  refine fm_aload_n hc d_An_start_15 rfl rfl ?_
  refine fm_getR (k := 2) (q := 15) hc K_An d_An_start_16 q_357 rfl (by decide) (by omega) (by decide) (by decide) (by decide) rfl (ap_2 hA) ?_
  refine fm_iload_n hc d_An_start_19 rfl rfl ?_
  refine fm_aald (q := 90 + 124 * j) (j := j) (len := 4) hc 5 d_An_start_20 (by decide) (by omega) (by decide) (by decide) rfl (by omega) (by decide) (ap_site hA hj) ?_
  refine fm_getI (k := 1) hc K_Si d_An_start_21 q_334 rfl (by omega) (by omega) (ly_Si hj) (by decide) (by decide) rfl ?_
  refine fm_if_eq (tgt := 29) hc d_An_start_24 rfl (fun g => absurd g hu) (fun _ => ?_)
  refine fm_iconst (v := nI 0) hc d_An_start_27 rfl ?_
  exact fx_ret (fm_zret (ty := .boolean) hc hr (by first | rfl | decide) d_An_start_28 (Nat.le_of_ble_eq_true rfl) (Nat.le_of_ble_eq_true rfl) ⟨rfl, rfl, rfl⟩)
