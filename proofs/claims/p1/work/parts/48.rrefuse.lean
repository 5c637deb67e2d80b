/-! REFUSALS of the reference -/
theorem p1_same (M : fm_M) (o k : Nat) (v : Int32) : (fm_put1 M o k v).1 o k = v := by simp [fm_put1, va_up]
theorem p1_twice (M : fm_M) (o k : Nat) (u v : Int32) : fm_put1 (fm_put1 M o k u) o k v = fm_put1 M o k v := by
  unfold fm_put1
  refine Prod.ext ?_ rfl
  funext q j
  by_cases hq : q = o
  · subst hq
    by_cases hj : j = k
    · subst hj; simp [va_up]
    · simp [va_up, hj]
  · simp [va_up, hq]
def fm_wi (v lo hi : Int32) : Prop := ¬ v < lo ∧ ¬ hi < v
theorem wi_of4 {v : Int32} (h : fm_in 4 v) : fm_wi v (nI 0) (nI 3) := by
  obtain ⟨j, hj, rfl⟩ := in4_to h
  rcases ap_four hj with rfl | rfl | rfl | rfl <;> exact ⟨by decide, by decide⟩
theorem wi_no4 {v : Int32} (h : ¬ fm_in 4 v) : ¬ fm_wi v (nI 0) (nI 3) := by
  intro g
  refine h ⟨g.1, fun g2 => g.2 ?_⟩
  have e4 : (nI 4).toInt = 4 := by decide
  have e3 : (nI 3).toInt = 3 := by decide
  rw [Int32.le_iff_toInt_le, e4] at g2
  rw [Int32.lt_iff_toInt_lt, e3]
  omega
theorem c_Mo_within_ok {l : Launch} {b : Nat} {x : Nat → Nat} {D : va_G} {dA : Nat → ClassId} {v lo hi : Int32} {n : Nat} {M : fm_M} (h : fm_wi v lo hi) : Met l y_Mo_within (Cond.code y_Mo_within b_Mo_within 3 (some .boolean) :: fm_T0) ({ frames := 0, cells := 0, slots := 0, locals := 0 }) (fm_Pc fm_lay fm_nf fm_fk fm_cl b x D dA (fm_tys dA) (fm_EX b x) false [.int v, .int lo, .int hi] n M) (fm_Qc fm_lay fm_nf fm_fk fm_cl b x D dA (fun r n' M' => r = some (.int (nI 1)) ∧ n' = n ∧ M' = M)) 0 0 (fm_A b) := by
  have k := c_Mo_within (l := l) (b := b) (x := x) (D := D) (dA := dA) (v := v) (lo := lo) (hi := hi) (n := n) (M := M)
  rw [if_neg h.1, if_neg h.2] at k
  exact k
theorem c_Mo_within_no {l : Launch} {b : Nat} {x : Nat → Nat} {D : va_G} {dA : Nat → ClassId} {v lo hi : Int32} {n : Nat} {M : fm_M} (h : ¬ fm_wi v lo hi) : Met l y_Mo_within (Cond.code y_Mo_within b_Mo_within 3 (some .boolean) :: fm_T0) ({ frames := 0, cells := 0, slots := 0, locals := 0 }) (fm_Pc fm_lay fm_nf fm_fk fm_cl b x D dA (fm_tys dA) (fm_EX b x) false [.int v, .int lo, .int hi] n M) (fm_Qc fm_lay fm_nf fm_fk fm_cl b x D dA (fun r n' M' => r = some (.int (nI 0)) ∧ n' = n ∧ M' = M)) 0 0 (fm_A b) := by
  have k := c_Mo_within (l := l) (b := b) (x := x) (D := D) (dA := dA) (v := v) (lo := lo) (hi := hi) (n := n) (M := M)
  by_cases g : v < lo
  · rw [if_pos g] at k
    exact k
  · rw [if_neg g, if_pos (Classical.byContradiction fun g2 => h ⟨g, g2⟩)] at k
    exact k
theorem c_wrongAt_bad {l : Launch} {b : Nat} {x : Nat → Nat} {D : va_G} {dA : Nat → ClassId} {v f : Int32} {n : Nat} {M : fm_M} (hn : 629 ≤ n) (hR : fm_RP M) (hv : ¬ fm_in 4 v) : Met l y_Mo_wrongAt (Cond.code y_Mo_wrongAt b_Mo_wrongAt 3 (some .int) :: fm_T0) ({ frames := 1, cells := 0, slots := 0, locals := 22 }) (fm_Pc fm_lay fm_nf fm_fk fm_cl b x D dA (fm_tys dA) (fm_EX b x) false [.ref 586, .int v, .int f] n M) (fm_Qc fm_lay fm_nf fm_fk fm_cl b x D dA (fun r n' M' => r = some (.int (nI 1)) ∧ n' = n ∧ M' = M)) 0 0 (fm_A b) := by
  refine fm_enter (by decide) (Nat.le_of_ble_eq_true rfl) ?_
  intro p e s m args below meth c hc hr hnm hex htg
  refine fm_iload_n hc d_Mo_wrongAt_0 rfl rfl ?_
  refine fm_iconst (v := nI 0) hc d_Mo_wrongAt_1 rfl ?_
  refine fm_iconst (v := nI 3) hc d_Mo_wrongAt_2 rfl ?_
  refine fm_callS (av := [.int v, .int (nI 0), .int (nI 3)]) (rest := []) (y := y_Mo_within) (bytes := b_Mo_within) hc fm_T0_good (fm_EX_st b x) hex q_1049 q_13 q_1047 q_1048 pd_Mo_within (c_Mo_within_no (wi_no4 hv)) ⟨rfl, rfl, Nat.le_of_ble_eq_true rfl, Nat.le_of_ble_eq_true rfl⟩ ⟨Nat.le_of_ble_eq_true rfl, Nat.le_of_ble_eq_true rfl⟩ d_Mo_wrongAt_3 (Nat.le_of_ble_eq_true rfl) (fun r n2 M2 hp => ?_)
  obtain ⟨rfl, rfl, rfl⟩ := hp
  refine fm_cnt (z' := (0, 0)) rfl (fm_st (st' := [.int (nI 0)]) rfl ?_)
  refine fm_if_eq (tgt := 13) hc d_Mo_wrongAt_6 rfl (fun _ => ?_) (fun g => absurd rfl g)
  refine fm_iconst (v := nI 1) hc d_Mo_wrongAt_13 rfl ?_
  refine fm_goto (tgt := 31) hc d_Mo_wrongAt_14 rfl ?_
  exact fm_iret hc hr d_Mo_wrongAt_31 (Nat.le_refl _) (Nat.le_refl _) ⟨rfl, rfl, rfl⟩
theorem c_wrongAt_unfit {l : Launch} {b : Nat} {x : Nat → Nat} {D : va_G} {dA : Nat → ClassId} {v : Int32} {n : Nat} {M : fm_M} (hn : 629 ≤ n) (hR : fm_RP M) (hv : fm_in 4 v) : Met l y_Mo_wrongAt (Cond.code y_Mo_wrongAt b_Mo_wrongAt 3 (some .int) :: fm_T0) ({ frames := 1, cells := 0, slots := 0, locals := 22 }) (fm_Pc fm_lay fm_nf fm_fk fm_cl b x D dA (fm_tys dA) (fm_EX b x) false [.ref 586, .int v, .int (nI 0)] n M) (fm_Qc fm_lay fm_nf fm_fk fm_cl b x D dA (fun r n' M' => r = some (.int (nI 1)) ∧ n' = n ∧ M' = M)) 0 0 (fm_A b) := by
  refine fm_enter (by decide) (Nat.le_of_ble_eq_true rfl) ?_
  intro p e s m args below meth c hc hr hnm hex htg
  refine fm_iload_n hc d_Mo_wrongAt_0 rfl rfl ?_
  refine fm_iconst (v := nI 0) hc d_Mo_wrongAt_1 rfl ?_
  refine fm_iconst (v := nI 3) hc d_Mo_wrongAt_2 rfl ?_
  refine fm_callS (av := [.int v, .int (nI 0), .int (nI 3)]) (rest := []) (y := y_Mo_within) (bytes := b_Mo_within) hc fm_T0_good (fm_EX_st b x) hex q_1049 q_13 q_1047 q_1048 pd_Mo_within (c_Mo_within_ok (wi_of4 hv)) ⟨rfl, rfl, Nat.le_of_ble_eq_true rfl, Nat.le_of_ble_eq_true rfl⟩ ⟨Nat.le_of_ble_eq_true rfl, Nat.le_of_ble_eq_true rfl⟩ d_Mo_wrongAt_3 (Nat.le_of_ble_eq_true rfl) (fun r n2 M2 hp => ?_)
  obtain ⟨rfl, rfl, rfl⟩ := hp
  refine fm_cnt (z' := (0, 0)) rfl (fm_st (st' := [.int (nI 1)]) rfl ?_)
  refine fm_if_eq (tgt := 13) hc d_Mo_wrongAt_6 rfl (fun g => absurd g (by decide)) (fun _ => ?_)
  refine fm_iload_n hc d_Mo_wrongAt_9 rfl rfl ?_
  refine fm_if_ne (tgt := 17) hc d_Mo_wrongAt_10 rfl (fun g => absurd rfl g) (fun _ => ?_)
  refine fm_iconst (v := nI 1) hc d_Mo_wrongAt_13 rfl ?_
  refine fm_goto (tgt := 31) hc d_Mo_wrongAt_14 rfl ?_
  exact fm_iret hc hr d_Mo_wrongAt_31 (Nat.le_refl _) (Nat.le_refl _) ⟨rfl, rfl, rfl⟩
theorem c_wrongAt_down {l : Launch} {b : Nat} {x : Nat → Nat} {D : va_G} {dA : Nat → ClassId} {j : Nat} {n : Nat} {M : fm_M} (hn : 629 ≤ n) (hR : fm_RP M) (hj : j < 4) (hu : M.1 595 j = 0) : Met l y_Mo_wrongAt (Cond.code y_Mo_wrongAt b_Mo_wrongAt 3 (some .int) :: fm_T0) ({ frames := 1, cells := 0, slots := 0, locals := 22 }) (fm_Pc fm_lay fm_nf fm_fk fm_cl b x D dA (fm_tys dA) (fm_EX b x) false [.ref 586, .int (nI j), .int (nI 1)] n M) (fm_Qc fm_lay fm_nf fm_fk fm_cl b x D dA (fun r n' M' => r = some (.int (nI 2)) ∧ n' = n ∧ M' = M)) 0 0 (fm_A b) := by
  refine fm_enter (by decide) (Nat.le_of_ble_eq_true rfl) ?_
  intro p e s m args below meth c hc hr hnm hex htg
  refine fm_iload_n hc d_Mo_wrongAt_0 rfl rfl ?_
  refine fm_iconst (v := nI 0) hc d_Mo_wrongAt_1 rfl ?_
  refine fm_iconst (v := nI 3) hc d_Mo_wrongAt_2 rfl ?_
  refine fm_callS (av := [.int (nI j), .int (nI 0), .int (nI 3)]) (rest := []) (y := y_Mo_within) (bytes := b_Mo_within) hc fm_T0_good (fm_EX_st b x) hex q_1049 q_13 q_1047 q_1048 pd_Mo_within (c_Mo_within_ok (wi_of4 (in4_of hj))) ⟨rfl, rfl, Nat.le_of_ble_eq_true rfl, Nat.le_of_ble_eq_true rfl⟩ ⟨Nat.le_of_ble_eq_true rfl, Nat.le_of_ble_eq_true rfl⟩ d_Mo_wrongAt_3 (Nat.le_of_ble_eq_true rfl) (fun r n2 M2 hp => ?_)
  obtain ⟨rfl, rfl, rfl⟩ := hp
  refine fm_cnt (z' := (0, 0)) rfl (fm_st (st' := [.int (nI 1)]) rfl ?_)
  refine fm_if_eq (tgt := 13) hc d_Mo_wrongAt_6 rfl (fun g => absurd g (by decide)) (fun _ => ?_)
  refine fm_iload_n hc d_Mo_wrongAt_9 rfl rfl ?_
  refine fm_if_ne (tgt := 17) hc d_Mo_wrongAt_10 rfl (fun _ => ?_) (fun g => absurd g (by decide))
  refine fm_aload_n hc d_Mo_wrongAt_17 rfl rfl ?_
  refine fm_getR (k := 10) (q := 595) hc K_Mo d_Mo_wrongAt_18 q_895 rfl (by decide) (by omega) (by decide) (by decide) (by decide) rfl (rp_up hR) ?_
  refine fm_iload_n hc d_Mo_wrongAt_21 rfl rfl ?_
  refine fm_zald (j := j) (len := 4) hc 1 d_Mo_wrongAt_22 (by decide) (by omega) (by decide) rfl (by omega) (by decide) ?_
  refine fm_if_ne (tgt := 30) hc d_Mo_wrongAt_23 rfl (fun g => absurd hu g) (fun _ => ?_)
  refine fm_iconst (v := nI 2) hc d_Mo_wrongAt_26 rfl ?_
  refine fm_goto (tgt := 31) hc d_Mo_wrongAt_27 rfl ?_
  exact fm_iret hc hr d_Mo_wrongAt_31 (Nat.le_refl _) (Nat.le_refl _) ⟨rfl, rfl, rfl⟩
theorem c_wrongAt_fine {l : Launch} {b : Nat} {x : Nat → Nat} {D : va_G} {dA : Nat → ClassId} {j : Nat} {n : Nat} {M : fm_M} (hn : 629 ≤ n) (hR : fm_RP M) (hj : j < 4) (hu : ¬ M.1 595 j = 0) : Met l y_Mo_wrongAt (Cond.code y_Mo_wrongAt b_Mo_wrongAt 3 (some .int) :: fm_T0) ({ frames := 1, cells := 0, slots := 0, locals := 22 }) (fm_Pc fm_lay fm_nf fm_fk fm_cl b x D dA (fm_tys dA) (fm_EX b x) false [.ref 586, .int (nI j), .int (nI 1)] n M) (fm_Qc fm_lay fm_nf fm_fk fm_cl b x D dA (fun r n' M' => r = some (.int (nI 0)) ∧ n' = n ∧ M' = M)) 0 0 (fm_A b) := by
  refine fm_enter (by decide) (Nat.le_of_ble_eq_true rfl) ?_
  intro p e s m args below meth c hc hr hnm hex htg
  refine fm_iload_n hc d_Mo_wrongAt_0 rfl rfl ?_
  refine fm_iconst (v := nI 0) hc d_Mo_wrongAt_1 rfl ?_
  refine fm_iconst (v := nI 3) hc d_Mo_wrongAt_2 rfl ?_
  refine fm_callS (av := [.int (nI j), .int (nI 0), .int (nI 3)]) (rest := []) (y := y_Mo_within) (bytes := b_Mo_within) hc fm_T0_good (fm_EX_st b x) hex q_1049 q_13 q_1047 q_1048 pd_Mo_within (c_Mo_within_ok (wi_of4 (in4_of hj))) ⟨rfl, rfl, Nat.le_of_ble_eq_true rfl, Nat.le_of_ble_eq_true rfl⟩ ⟨Nat.le_of_ble_eq_true rfl, Nat.le_of_ble_eq_true rfl⟩ d_Mo_wrongAt_3 (Nat.le_of_ble_eq_true rfl) (fun r n2 M2 hp => ?_)
  obtain ⟨rfl, rfl, rfl⟩ := hp
  refine fm_cnt (z' := (0, 0)) rfl (fm_st (st' := [.int (nI 1)]) rfl ?_)
  refine fm_if_eq (tgt := 13) hc d_Mo_wrongAt_6 rfl (fun g => absurd g (by decide)) (fun _ => ?_)
  refine fm_iload_n hc d_Mo_wrongAt_9 rfl rfl ?_
  refine fm_if_ne (tgt := 17) hc d_Mo_wrongAt_10 rfl (fun _ => ?_) (fun g => absurd g (by decide))
  refine fm_aload_n hc d_Mo_wrongAt_17 rfl rfl ?_
  refine fm_getR (k := 10) (q := 595) hc K_Mo d_Mo_wrongAt_18 q_895 rfl (by decide) (by omega) (by decide) (by decide) (by decide) rfl (rp_up hR) ?_
  refine fm_iload_n hc d_Mo_wrongAt_21 rfl rfl ?_
  refine fm_zald (j := j) (len := 4) hc 1 d_Mo_wrongAt_22 (by decide) (by omega) (by decide) rfl (by omega) (by decide) ?_
  refine fm_if_ne (tgt := 30) hc d_Mo_wrongAt_23 rfl (fun _ => ?_) (fun g => absurd g hu)
  refine fm_iconst (v := nI 0) hc d_Mo_wrongAt_30 rfl ?_
  exact fm_iret hc hr d_Mo_wrongAt_31 (Nat.le_refl _) (Nat.le_refl _) ⟨rfl, rfl, rfl⟩
theorem r_tick_bad {l : Launch} {b : Nat} {x : Nat → Nat} {D : va_G} {dA : Nat → ClassId} {v : Int32} {n : Nat} {M : fm_M} (hn : 629 ≤ n) (hR : fm_RP M) (hv : ¬ fm_in 4 v) : Met l y_Mo_tick (Cond.code y_Mo_tick b_Mo_tick 4 (some .int) :: fm_T0) ({ frames := 2, cells := 0, slots := 0, locals := 44 }) (fm_Pc fm_lay fm_nf fm_fk fm_cl b x D dA (fm_tys dA) (fm_EX b x) false [.ref 586, .int v] n M) (fm_Qc fm_lay fm_nf fm_fk fm_cl b x D dA (fun r n' M' => r = some (.int (nI 0)) ∧ n' = n ∧ M' = fm_put1 M 586 0 (nI 1))) 0 0 (fm_A b) := by
  refine fm_enter (by decide) (Nat.le_of_ble_eq_true rfl) ?_
  intro p e s m args below meth c hc hr hnm hex htg
  refine fm_aload_n hc d_Mo_tick_0 rfl rfl ?_
  refine fm_aload_n hc d_Mo_tick_1 rfl rfl ?_
  refine fm_iload_n hc d_Mo_tick_2 rfl rfl ?_
  refine fm_iconst (v := nI 1) hc d_Mo_tick_3 rfl ?_
  refine fm_callV (av := [.int v, .int (nI 1)]) (rest := [.ref 586]) (ob := 586) (ci := 11) (r0 := ("AgentNetModel", F_Mo, 51)) (y := y_Mo_wrongAt) (bytes := b_Mo_wrongAt) hc fm_T0_good (fm_EX_st b x) hex q_1078 q_13 q_1075 q_1077 qs_Mo_wrongAt pd_Mo_wrongAt (by decide) (by omega) (by decide) (by decide) rfl rfl (c_wrongAt_bad hn hR hv) ⟨rfl, rfl, Nat.le_of_ble_eq_true rfl, Nat.le_of_ble_eq_true rfl⟩ ⟨Nat.le_of_ble_eq_true rfl, Nat.le_of_ble_eq_true rfl⟩ d_Mo_tick_4 (Nat.le_of_ble_eq_true rfl) (fun r n2 M2 hp => ?_)
  obtain ⟨rfl, rfl, rfl⟩ := hp
  refine fm_cnt (z' := (0, 0)) rfl (fm_st (st' := [.int (nI 1), .ref 586]) rfl ?_)
  refine fm_putI (k := 0) (v := nI 1) hc K_Mo d_Mo_tick_7 q_885 rfl (by decide) (by omega) (by decide) (by decide) (by decide) rfl rfl rfl rfl ?_
  refine fm_aload_n hc d_Mo_tick_10 rfl rfl ?_
  refine fm_getI (k := 0) hc K_Mo d_Mo_tick_11 q_885 rfl (by decide) (by omega) (by decide) (by decide) (by decide) rfl ?_
  refine fm_top (congrArg Value.int (p1_same _ 586 0 (nI 1))) ?_
  refine fm_if_le (tgt := 19) hc d_Mo_tick_14 rfl (fun g => absurd g (by decide)) (fun _ => ?_)
  refine fm_iconst (v := nI 0) hc d_Mo_tick_17 rfl ?_
  exact fm_iret hc hr d_Mo_tick_18 (Nat.le_refl _) (Nat.le_refl _) ⟨rfl, rfl, rfl⟩
theorem r_tick_down {l : Launch} {b : Nat} {x : Nat → Nat} {D : va_G} {dA : Nat → ClassId} {j : Nat} {n : Nat} {M : fm_M} (hn : 629 ≤ n) (hR : fm_RP M) (hj : j < 4) (hu : M.1 595 j = 0) : Met l y_Mo_tick (Cond.code y_Mo_tick b_Mo_tick 4 (some .int) :: fm_T0) ({ frames := 2, cells := 0, slots := 0, locals := 44 }) (fm_Pc fm_lay fm_nf fm_fk fm_cl b x D dA (fm_tys dA) (fm_EX b x) false [.ref 586, .int (nI j)] n M) (fm_Qc fm_lay fm_nf fm_fk fm_cl b x D dA (fun r n' M' => r = some (.int (nI 0)) ∧ n' = n ∧ M' = fm_put1 M 586 0 (nI 2))) 0 0 (fm_A b) := by
  refine fm_enter (by decide) (Nat.le_of_ble_eq_true rfl) ?_
  intro p e s m args below meth c hc hr hnm hex htg
  refine fm_aload_n hc d_Mo_tick_0 rfl rfl ?_
  refine fm_aload_n hc d_Mo_tick_1 rfl rfl ?_
  refine fm_iload_n hc d_Mo_tick_2 rfl rfl ?_
  refine fm_iconst (v := nI 1) hc d_Mo_tick_3 rfl ?_
  refine fm_callV (av := [.int (nI j), .int (nI 1)]) (rest := [.ref 586]) (ob := 586) (ci := 11) (r0 := ("AgentNetModel", F_Mo, 51)) (y := y_Mo_wrongAt) (bytes := b_Mo_wrongAt) hc fm_T0_good (fm_EX_st b x) hex q_1078 q_13 q_1075 q_1077 qs_Mo_wrongAt pd_Mo_wrongAt (by decide) (by omega) (by decide) (by decide) rfl rfl (c_wrongAt_down hn hR hj hu) ⟨rfl, rfl, Nat.le_of_ble_eq_true rfl, Nat.le_of_ble_eq_true rfl⟩ ⟨Nat.le_of_ble_eq_true rfl, Nat.le_of_ble_eq_true rfl⟩ d_Mo_tick_4 (Nat.le_of_ble_eq_true rfl) (fun r n2 M2 hp => ?_)
  obtain ⟨rfl, rfl, rfl⟩ := hp
  refine fm_cnt (z' := (0, 0)) rfl (fm_st (st' := [.int (nI 2), .ref 586]) rfl ?_)
  refine fm_putI (k := 0) (v := nI 2) hc K_Mo d_Mo_tick_7 q_885 rfl (by decide) (by omega) (by decide) (by decide) (by decide) rfl rfl rfl rfl ?_
  refine fm_aload_n hc d_Mo_tick_10 rfl rfl ?_
  refine fm_getI (k := 0) hc K_Mo d_Mo_tick_11 q_885 rfl (by decide) (by omega) (by decide) (by decide) (by decide) rfl ?_
  refine fm_top (congrArg Value.int (p1_same _ 586 0 (nI 2))) ?_
  refine fm_if_le (tgt := 19) hc d_Mo_tick_14 rfl (fun g => absurd g (by decide)) (fun _ => ?_)
  refine fm_iconst (v := nI 0) hc d_Mo_tick_17 rfl ?_
  exact fm_iret hc hr d_Mo_tick_18 (Nat.le_refl _) (Nat.le_refl _) ⟨rfl, rfl, rfl⟩
theorem r_checkpoint_bad {l : Launch} {b : Nat} {x : Nat → Nat} {D : va_G} {dA : Nat → ClassId} {v : Int32} {n : Nat} {M : fm_M} (hn : 629 ≤ n) (hR : fm_RP M) (hv : ¬ fm_in 4 v) : Met l y_Mo_checkpoint (Cond.code y_Mo_checkpoint b_Mo_checkpoint 3 (some .int) :: fm_T0) ({ frames := 2, cells := 0, slots := 0, locals := 44 }) (fm_Pc fm_lay fm_nf fm_fk fm_cl b x D dA (fm_tys dA) (fm_EX b x) false [.ref 586, .int v] n M) (fm_Qc fm_lay fm_nf fm_fk fm_cl b x D dA (fun r n' M' => r = some (.int (nI 0)) ∧ n' = n ∧ M' = fm_put1 M 586 0 (nI 1))) 0 0 (fm_A b) := by
  refine fm_enter (by decide) (Nat.le_of_ble_eq_true rfl) ?_
  intro p e s m args below meth c hc hr hnm hex htg
  refine fm_aload_n hc d_Mo_checkpoint_0 rfl rfl ?_
  refine fm_aload_n hc d_Mo_checkpoint_1 rfl rfl ?_
  refine fm_iload_n hc d_Mo_checkpoint_2 rfl rfl ?_
  refine fm_iconst (v := nI 1) hc d_Mo_checkpoint_3 rfl ?_
  refine fm_callV (av := [.int v, .int (nI 1)]) (rest := [.ref 586]) (ob := 586) (ci := 11) (r0 := ("AgentNetModel", F_Mo, 51)) (y := y_Mo_wrongAt) (bytes := b_Mo_wrongAt) hc fm_T0_good (fm_EX_st b x) hex q_1078 q_13 q_1075 q_1077 qs_Mo_wrongAt pd_Mo_wrongAt (by decide) (by omega) (by decide) (by decide) rfl rfl (c_wrongAt_bad hn hR hv) ⟨rfl, rfl, Nat.le_of_ble_eq_true rfl, Nat.le_of_ble_eq_true rfl⟩ ⟨Nat.le_of_ble_eq_true rfl, Nat.le_of_ble_eq_true rfl⟩ d_Mo_checkpoint_4 (Nat.le_of_ble_eq_true rfl) (fun r n2 M2 hp => ?_)
  obtain ⟨rfl, rfl, rfl⟩ := hp
  refine fm_cnt (z' := (0, 0)) rfl (fm_st (st' := [.int (nI 1), .ref 586]) rfl ?_)
  refine fm_putI (k := 0) (v := nI 1) hc K_Mo d_Mo_checkpoint_7 q_885 rfl (by decide) (by omega) (by decide) (by decide) (by decide) rfl rfl rfl rfl ?_
  refine fm_aload_n hc d_Mo_checkpoint_10 rfl rfl ?_
  refine fm_aload_n hc d_Mo_checkpoint_11 rfl rfl ?_
  refine fm_getI (k := 0) hc K_Mo d_Mo_checkpoint_12 q_885 rfl (by decide) (by omega) (by decide) (by decide) (by decide) rfl ?_
  refine fm_top (congrArg Value.int (p1_same _ 586 0 (nI 1))) ?_
  refine fm_if_ne (tgt := 31) hc d_Mo_checkpoint_15 rfl (fun _ => ?_) (fun g => absurd g (by decide))
  refine fm_aload_n hc d_Mo_checkpoint_31 rfl rfl ?_
  refine fm_getI (k := 0) hc K_Mo d_Mo_checkpoint_32 q_885 rfl (by decide) (by omega) (by decide) (by decide) (by decide) rfl ?_
  refine fm_top (congrArg Value.int (p1_same _ 586 0 (nI 1))) ?_
  refine fm_putI (k := 0) (v := nI 1) hc K_Mo d_Mo_checkpoint_35 q_885 rfl (by decide) (by omega) (by decide) (by decide) (by decide) rfl rfl rfl rfl ?_
  refine fm_aload_n hc d_Mo_checkpoint_38 rfl rfl ?_
  refine fm_getI (k := 0) hc K_Mo d_Mo_checkpoint_39 q_885 rfl (by decide) (by omega) (by decide) (by decide) (by decide) rfl ?_
  refine fm_top (congrArg Value.int (p1_same _ 586 0 (nI 1))) ?_
  refine fm_if_le (tgt := 47) hc d_Mo_checkpoint_42 rfl (fun g => absurd g (by decide)) (fun _ => ?_)
  refine fm_iconst (v := nI 0) hc d_Mo_checkpoint_45 rfl ?_
  exact fm_iret hc hr d_Mo_checkpoint_46 (Nat.le_refl _) (Nat.le_refl _) ⟨rfl, rfl, p1_twice _ _ _ _ _⟩
theorem r_checkpoint_down {l : Launch} {b : Nat} {x : Nat → Nat} {D : va_G} {dA : Nat → ClassId} {j : Nat} {n : Nat} {M : fm_M} (hn : 629 ≤ n) (hR : fm_RP M) (hj : j < 4) (hu : M.1 595 j = 0) : Met l y_Mo_checkpoint (Cond.code y_Mo_checkpoint b_Mo_checkpoint 3 (some .int) :: fm_T0) ({ frames := 2, cells := 0, slots := 0, locals := 44 }) (fm_Pc fm_lay fm_nf fm_fk fm_cl b x D dA (fm_tys dA) (fm_EX b x) false [.ref 586, .int (nI j)] n M) (fm_Qc fm_lay fm_nf fm_fk fm_cl b x D dA (fun r n' M' => r = some (.int (nI 0)) ∧ n' = n ∧ M' = fm_put1 M 586 0 (nI 2))) 0 0 (fm_A b) := by
  refine fm_enter (by decide) (Nat.le_of_ble_eq_true rfl) ?_
  intro p e s m args below meth c hc hr hnm hex htg
  refine fm_aload_n hc d_Mo_checkpoint_0 rfl rfl ?_
  refine fm_aload_n hc d_Mo_checkpoint_1 rfl rfl ?_
  refine fm_iload_n hc d_Mo_checkpoint_2 rfl rfl ?_
  refine fm_iconst (v := nI 1) hc d_Mo_checkpoint_3 rfl ?_
  refine fm_callV (av := [.int (nI j), .int (nI 1)]) (rest := [.ref 586]) (ob := 586) (ci := 11) (r0 := ("AgentNetModel", F_Mo, 51)) (y := y_Mo_wrongAt) (bytes := b_Mo_wrongAt) hc fm_T0_good (fm_EX_st b x) hex q_1078 q_13 q_1075 q_1077 qs_Mo_wrongAt pd_Mo_wrongAt (by decide) (by omega) (by decide) (by decide) rfl rfl (c_wrongAt_down hn hR hj hu) ⟨rfl, rfl, Nat.le_of_ble_eq_true rfl, Nat.le_of_ble_eq_true rfl⟩ ⟨Nat.le_of_ble_eq_true rfl, Nat.le_of_ble_eq_true rfl⟩ d_Mo_checkpoint_4 (Nat.le_of_ble_eq_true rfl) (fun r n2 M2 hp => ?_)
  obtain ⟨rfl, rfl, rfl⟩ := hp
  refine fm_cnt (z' := (0, 0)) rfl (fm_st (st' := [.int (nI 2), .ref 586]) rfl ?_)
  refine fm_putI (k := 0) (v := nI 2) hc K_Mo d_Mo_checkpoint_7 q_885 rfl (by decide) (by omega) (by decide) (by decide) (by decide) rfl rfl rfl rfl ?_
  refine fm_aload_n hc d_Mo_checkpoint_10 rfl rfl ?_
  refine fm_aload_n hc d_Mo_checkpoint_11 rfl rfl ?_
  refine fm_getI (k := 0) hc K_Mo d_Mo_checkpoint_12 q_885 rfl (by decide) (by omega) (by decide) (by decide) (by decide) rfl ?_
  refine fm_top (congrArg Value.int (p1_same _ 586 0 (nI 2))) ?_
  refine fm_if_ne (tgt := 31) hc d_Mo_checkpoint_15 rfl (fun _ => ?_) (fun g => absurd g (by decide))
  refine fm_aload_n hc d_Mo_checkpoint_31 rfl rfl ?_
  refine fm_getI (k := 0) hc K_Mo d_Mo_checkpoint_32 q_885 rfl (by decide) (by omega) (by decide) (by decide) (by decide) rfl ?_
  refine fm_top (congrArg Value.int (p1_same _ 586 0 (nI 2))) ?_
  refine fm_putI (k := 0) (v := nI 2) hc K_Mo d_Mo_checkpoint_35 q_885 rfl (by decide) (by omega) (by decide) (by decide) (by decide) rfl rfl rfl rfl ?_
  refine fm_aload_n hc d_Mo_checkpoint_38 rfl rfl ?_
  refine fm_getI (k := 0) hc K_Mo d_Mo_checkpoint_39 q_885 rfl (by decide) (by omega) (by decide) (by decide) (by decide) rfl ?_
  refine fm_top (congrArg Value.int (p1_same _ 586 0 (nI 2))) ?_
  refine fm_if_le (tgt := 47) hc d_Mo_checkpoint_42 rfl (fun g => absurd g (by decide)) (fun _ => ?_)
  refine fm_iconst (v := nI 0) hc d_Mo_checkpoint_45 rfl ?_
  exact fm_iret hc hr d_Mo_checkpoint_46 (Nat.le_refl _) (Nat.le_refl _) ⟨rfl, rfl, p1_twice _ _ _ _ _⟩
theorem r_crash_bad {l : Launch} {b : Nat} {x : Nat → Nat} {D : va_G} {dA : Nat → ClassId} {v : Int32} {n : Nat} {M : fm_M} (hn : 629 ≤ n) (hR : fm_RP M) (hv : ¬ fm_in 4 v) : Met l y_Mo_crash (Cond.code y_Mo_crash b_Mo_crash 2 (some .boolean) :: fm_T0) ({ frames := 1, cells := 0, slots := 0, locals := 22 }) (fm_Pc fm_lay fm_nf fm_fk fm_cl b x D dA (fm_tys dA) (fm_EX b x) false [.ref 586, .int v] n M) (fm_Qc fm_lay fm_nf fm_fk fm_cl b x D dA (fun r n' M' => r = some (.int (nI 0)) ∧ n' = n ∧ M' = fm_put1 M 586 0 (nI 1))) 0 0 (fm_A b) := by
  refine fm_enter (by decide) (Nat.le_of_ble_eq_true rfl) ?_
  intro p e s m args below meth c hc hr hnm hex htg
  refine fm_aload_n hc d_Mo_crash_0 rfl rfl ?_
  refine fm_iload_n hc d_Mo_crash_1 rfl rfl ?_
  refine fm_iconst (v := nI 0) hc d_Mo_crash_2 rfl ?_
  refine fm_iconst (v := nI 3) hc d_Mo_crash_3 rfl ?_
  refine fm_callS (av := [.int v, .int (nI 0), .int (nI 3)]) (rest := [.ref 586]) (y := y_Mo_within) (bytes := b_Mo_within) hc fm_T0_good (fm_EX_st b x) hex q_1049 q_13 q_1047 q_1048 pd_Mo_within (c_Mo_within_no (wi_no4 hv)) ⟨rfl, rfl, Nat.le_of_ble_eq_true rfl, Nat.le_of_ble_eq_true rfl⟩ ⟨Nat.le_of_ble_eq_true rfl, Nat.le_of_ble_eq_true rfl⟩ d_Mo_crash_4 (Nat.le_of_ble_eq_true rfl) (fun r n2 M2 hp => ?_)
  obtain ⟨rfl, rfl, rfl⟩ := hp
  refine fm_cnt (z' := (0, 0)) rfl (fm_st (st' := [.int (nI 0), .ref 586]) rfl ?_)
  refine fm_if_eq (tgt := 14) hc d_Mo_crash_7 rfl (fun _ => ?_) (fun g => absurd rfl g)
  refine fm_iconst (v := nI 1) hc d_Mo_crash_14 rfl ?_
  refine fm_putI (k := 0) (v := nI 1) hc K_Mo d_Mo_crash_15 q_885 rfl (by decide) (by omega) (by decide) (by decide) (by decide) rfl rfl rfl rfl ?_
  refine fm_aload_n hc d_Mo_crash_18 rfl rfl ?_
  refine fm_getI (k := 0) hc K_Mo d_Mo_crash_19 q_885 rfl (by decide) (by omega) (by decide) (by decide) (by decide) rfl ?_
  refine fm_top (congrArg Value.int (p1_same _ 586 0 (nI 1))) ?_
  refine fm_if_gt (tgt := 34) hc d_Mo_crash_22 rfl (fun _ => ?_) (fun g => absurd (by decide) g)
  refine fm_iconst (v := nI 0) hc d_Mo_crash_34 rfl ?_
  exact fm_zret (ty := .boolean) hc hr (by first | rfl | decide) d_Mo_crash_35 (Nat.le_refl _) (Nat.le_refl _) ⟨rfl, rfl, rfl⟩
theorem r_start_bad {l : Launch} {b : Nat} {x : Nat → Nat} {D : va_G} {dA : Nat → ClassId} {v : Int32} {n : Nat} {M : fm_M} (hn : 629 ≤ n) (hR : fm_RP M) (hv : ¬ fm_in 4 v) : Met l y_Mo_start (Cond.code y_Mo_start b_Mo_start 2 (some .boolean) :: fm_T0) ({ frames := 1, cells := 0, slots := 0, locals := 22 }) (fm_Pc fm_lay fm_nf fm_fk fm_cl b x D dA (fm_tys dA) (fm_EX b x) false [.ref 586, .int v] n M) (fm_Qc fm_lay fm_nf fm_fk fm_cl b x D dA (fun r n' M' => r = some (.int (nI 0)) ∧ n' = n ∧ M' = fm_put1 M 586 0 (nI 1))) 0 0 (fm_A b) := by
  refine fm_enter (by decide) (Nat.le_of_ble_eq_true rfl) ?_
  intro p e s m args below meth c hc hr hnm hex htg
  refine fm_aload_n hc d_Mo_start_0 rfl rfl ?_
  refine fm_iload_n hc d_Mo_start_1 rfl rfl ?_
  refine fm_iconst (v := nI 0) hc d_Mo_start_2 rfl ?_
  refine fm_iconst (v := nI 3) hc d_Mo_start_3 rfl ?_
  refine fm_callS (av := [.int v, .int (nI 0), .int (nI 3)]) (rest := [.ref 586]) (y := y_Mo_within) (bytes := b_Mo_within) hc fm_T0_good (fm_EX_st b x) hex q_1049 q_13 q_1047 q_1048 pd_Mo_within (c_Mo_within_no (wi_no4 hv)) ⟨rfl, rfl, Nat.le_of_ble_eq_true rfl, Nat.le_of_ble_eq_true rfl⟩ ⟨Nat.le_of_ble_eq_true rfl, Nat.le_of_ble_eq_true rfl⟩ d_Mo_start_4 (Nat.le_of_ble_eq_true rfl) (fun r n2 M2 hp => ?_)
  obtain ⟨rfl, rfl, rfl⟩ := hp
  refine fm_cnt (z' := (0, 0)) rfl (fm_st (st' := [.int (nI 0), .ref 586]) rfl ?_)
  refine fm_if_eq (tgt := 14) hc d_Mo_start_7 rfl (fun _ => ?_) (fun g => absurd rfl g)
  refine fm_iconst (v := nI 1) hc d_Mo_start_14 rfl ?_
  refine fm_putI (k := 0) (v := nI 1) hc K_Mo d_Mo_start_15 q_885 rfl (by decide) (by omega) (by decide) (by decide) (by decide) rfl rfl rfl rfl ?_
  refine fm_aload_n hc d_Mo_start_18 rfl rfl ?_
  refine fm_getI (k := 0) hc K_Mo d_Mo_start_19 q_885 rfl (by decide) (by omega) (by decide) (by decide) (by decide) rfl ?_
  refine fm_top (congrArg Value.int (p1_same _ 586 0 (nI 1))) ?_
  refine fm_if_gt (tgt := 34) hc d_Mo_start_22 rfl (fun _ => ?_) (fun g => absurd (by decide) g)
  refine fm_iconst (v := nI 0) hc d_Mo_start_34 rfl ?_
  exact fm_zret (ty := .boolean) hc hr (by first | rfl | decide) d_Mo_start_35 (Nat.le_refl _) (Nat.le_refl _) ⟨rfl, rfl, rfl⟩
