/-! LEAVES: methods that call nothing -/
theorem c_An_isHost {l : Launch} {b : Nat} {x : Nat → Nat} {D : va_G} {dA : Nat → ClassId} {v : Int32} {n : Nat} {M : fm_M}  : Met l y_An_isHost (Cond.code y_An_isHost b_An_isHost 1 (some .boolean) :: fm_T0) ({ frames := 0, cells := 0, slots := 0, locals := 0 }) (fm_Pc fm_lay fm_nf fm_fk fm_cl b x D dA (fm_tys dA) (fm_EX b x) false [.int v] n M) (fm_Qc fm_lay fm_nf fm_fk fm_cl b x D dA (fun r n' M' => r = some (.int ((if v < 0 then nI 0 else (if (nI 4) ≤ v then nI 0 else nI 1)))) ∧ n' = n ∧ M' = M)) 0 0 (fm_A b) := by
  refine fm_enter (by decide) (Nat.le_of_ble_eq_true rfl) ?_
  intro p e s m args below meth c hc hr hnm hex htg
  refine fm_iload_n hc d_An_isHost_0 rfl rfl ?_
  refine fm_if_lt (tgt := 13) hc d_An_isHost_1 rfl (fun g0 => ?_) (fun g0 => ?_)
  · refine fm_iconst (v := nI 0) hc d_An_isHost_13 rfl ?_
    exact fm_zret (ty := .boolean) hc hr (by first | rfl | decide) d_An_isHost_14 (Nat.le_refl _) (Nat.le_refl _) ⟨by first | rfl | rw [if_pos g0], rfl, by first | rfl | rw [if_pos g0]⟩
  · refine fm_iload_n hc d_An_isHost_4 rfl rfl ?_
    refine fm_iconst (v := nI 4) hc d_An_isHost_5 rfl ?_
    refine fm_icmp_ge (tgt := 13) hc d_An_isHost_6 rfl (fun g1 => ?_) (fun g1 => ?_)
    · refine fm_iconst (v := nI 0) hc d_An_isHost_13 rfl ?_
      exact fm_zret (ty := .boolean) hc hr (by first | rfl | decide) d_An_isHost_14 (Nat.le_refl _) (Nat.le_refl _) ⟨by first | rfl | rw [if_neg g0, if_pos g1], rfl, by first | rfl | rw [if_neg g0, if_pos g1]⟩
    · refine fm_iconst (v := nI 1) hc d_An_isHost_9 rfl ?_
      refine fm_goto (tgt := 14) hc d_An_isHost_10 rfl ?_
      exact fm_zret (ty := .boolean) hc hr (by first | rfl | decide) d_An_isHost_14 (Nat.le_refl _) (Nat.le_refl _) ⟨by first | rfl | rw [if_neg g0, if_neg g1], rfl, by first | rfl | rw [if_neg g0, if_neg g1]⟩
theorem c_An_isProgram {l : Launch} {b : Nat} {x : Nat → Nat} {D : va_G} {dA : Nat → ClassId} {v : Int32} {n : Nat} {M : fm_M}  : Met l y_An_isProgram (Cond.code y_An_isProgram b_An_isProgram 1 (some .boolean) :: fm_T0) ({ frames := 0, cells := 0, slots := 0, locals := 0 }) (fm_Pc fm_lay fm_nf fm_fk fm_cl b x D dA (fm_tys dA) (fm_EX b x) false [.int v] n M) (fm_Qc fm_lay fm_nf fm_fk fm_cl b x D dA (fun r n' M' => r = some (.int ((if v < 0 then nI 0 else (if (nI 4) ≤ v then nI 0 else nI 1)))) ∧ n' = n ∧ M' = M)) 0 0 (fm_A b) := by
  refine fm_enter (by decide) (Nat.le_of_ble_eq_true rfl) ?_
  intro p e s m args below meth c hc hr hnm hex htg
  refine fm_iload_n hc d_An_isProgram_0 rfl rfl ?_
  refine fm_if_lt (tgt := 13) hc d_An_isProgram_1 rfl (fun g2 => ?_) (fun g2 => ?_)
  · refine fm_iconst (v := nI 0) hc d_An_isProgram_13 rfl ?_
    exact fm_zret (ty := .boolean) hc hr (by first | rfl | decide) d_An_isProgram_14 (Nat.le_refl _) (Nat.le_refl _) ⟨by first | rfl | rw [if_pos g2], rfl, by first | rfl | rw [if_pos g2]⟩
  · refine fm_iload_n hc d_An_isProgram_4 rfl rfl ?_
    refine fm_iconst (v := nI 4) hc d_An_isProgram_5 rfl ?_
    refine fm_icmp_ge (tgt := 13) hc d_An_isProgram_6 rfl (fun g3 => ?_) (fun g3 => ?_)
    · refine fm_iconst (v := nI 0) hc d_An_isProgram_13 rfl ?_
      exact fm_zret (ty := .boolean) hc hr (by first | rfl | decide) d_An_isProgram_14 (Nat.le_refl _) (Nat.le_refl _) ⟨by first | rfl | rw [if_neg g2, if_pos g3], rfl, by first | rfl | rw [if_neg g2, if_pos g3]⟩
    · refine fm_iconst (v := nI 1) hc d_An_isProgram_9 rfl ?_
      refine fm_goto (tgt := 14) hc d_An_isProgram_10 rfl ?_
      exact fm_zret (ty := .boolean) hc hr (by first | rfl | decide) d_An_isProgram_14 (Nat.le_refl _) (Nat.le_refl _) ⟨by first | rfl | rw [if_neg g2, if_neg g3], rfl, by first | rfl | rw [if_neg g2, if_neg g3]⟩
theorem c_An_isAgent {l : Launch} {b : Nat} {x : Nat → Nat} {D : va_G} {dA : Nat → ClassId} {v : Int32} {n : Nat} {M : fm_M}  : Met l y_An_isAgent (Cond.code y_An_isAgent b_An_isAgent 1 (some .boolean) :: fm_T0) ({ frames := 0, cells := 0, slots := 0, locals := 0 }) (fm_Pc fm_lay fm_nf fm_fk fm_cl b x D dA (fm_tys dA) (fm_EX b x) false [.int v] n M) (fm_Qc fm_lay fm_nf fm_fk fm_cl b x D dA (fun r n' M' => r = some (.int ((if v < 0 then nI 0 else (if (nI 8) ≤ v then nI 0 else nI 1)))) ∧ n' = n ∧ M' = M)) 0 0 (fm_A b) := by
  refine fm_enter (by decide) (Nat.le_of_ble_eq_true rfl) ?_
  intro p e s m args below meth c hc hr hnm hex htg
  refine fm_iload_n hc d_An_isAgent_0 rfl rfl ?_
  refine fm_if_lt (tgt := 14) hc d_An_isAgent_1 rfl (fun g4 => ?_) (fun g4 => ?_)
  · refine fm_iconst (v := nI 0) hc d_An_isAgent_14 rfl ?_
    exact fm_zret (ty := .boolean) hc hr (by first | rfl | decide) d_An_isAgent_15 (Nat.le_refl _) (Nat.le_refl _) ⟨by first | rfl | rw [if_pos g4], rfl, by first | rfl | rw [if_pos g4]⟩
  · refine fm_iload_n hc d_An_isAgent_4 rfl rfl ?_
    refine fm_bipush (v := nI 8) hc d_An_isAgent_5 rfl ?_
    refine fm_icmp_ge (tgt := 14) hc d_An_isAgent_7 rfl (fun g5 => ?_) (fun g5 => ?_)
    · refine fm_iconst (v := nI 0) hc d_An_isAgent_14 rfl ?_
      exact fm_zret (ty := .boolean) hc hr (by first | rfl | decide) d_An_isAgent_15 (Nat.le_refl _) (Nat.le_refl _) ⟨by first | rfl | rw [if_neg g4, if_pos g5], rfl, by first | rfl | rw [if_neg g4, if_pos g5]⟩
    · refine fm_iconst (v := nI 1) hc d_An_isAgent_10 rfl ?_
      refine fm_goto (tgt := 15) hc d_An_isAgent_11 rfl ?_
      exact fm_zret (ty := .boolean) hc hr (by first | rfl | decide) d_An_isAgent_15 (Nat.le_refl _) (Nat.le_refl _) ⟨by first | rfl | rw [if_neg g4, if_neg g5], rfl, by first | rfl | rw [if_neg g4, if_neg g5]⟩
theorem c_An_isPair {l : Launch} {b : Nat} {x : Nat → Nat} {D : va_G} {dA : Nat → ClassId} {v : Int64} {n : Nat} {M : fm_M}  : Met l y_An_isPair (Cond.code y_An_isPair b_An_isPair 2 (some .boolean) :: fm_T0) ({ frames := 0, cells := 0, slots := 0, locals := 0 }) (fm_Pc fm_lay fm_nf fm_fk fm_cl b x D dA (fm_tys dA) (fm_EX b x) false [.long v] n M) (fm_Qc fm_lay fm_nf fm_fk fm_cl b x D dA (fun r n' M' => r = some (.int ((if (lg_cmp v 1099511627776) < 0 then nI 0 else nI 1))) ∧ n' = n ∧ M' = M)) 0 0 (fm_A b) := by
  refine fm_enter (by decide) (Nat.le_of_ble_eq_true rfl) ?_
  intro p e s m args below meth c hc hr hnm hex htg
  refine fm_lload_n hc d_An_isPair_0 rfl rfl ?_
  refine fm_ldc2 (v := 1099511627776) hc d_An_isPair_1 q_428 ?_
  refine fm_lcmp hc d_An_isPair_4 ?_
  refine fm_if_lt (tgt := 12) hc d_An_isPair_5 rfl (fun g6 => ?_) (fun g6 => ?_)
  · refine fm_iconst (v := nI 0) hc d_An_isPair_12 rfl ?_
    exact fm_zret (ty := .boolean) hc hr (by first | rfl | decide) d_An_isPair_13 (Nat.le_refl _) (Nat.le_refl _) ⟨by first | rfl | rw [if_pos g6], rfl, by first | rfl | rw [if_pos g6]⟩
  · refine fm_iconst (v := nI 1) hc d_An_isPair_8 rfl ?_
    refine fm_goto (tgt := 13) hc d_An_isPair_9 rfl ?_
    exact fm_zret (ty := .boolean) hc hr (by first | rfl | decide) d_An_isPair_13 (Nat.le_refl _) (Nat.le_refl _) ⟨by first | rfl | rw [if_neg g6], rfl, by first | rfl | rw [if_neg g6]⟩
theorem c_Mo_within {l : Launch} {b : Nat} {x : Nat → Nat} {D : va_G} {dA : Nat → ClassId} {v lo hi : Int32} {n : Nat} {M : fm_M}  : Met l y_Mo_within (Cond.code y_Mo_within b_Mo_within 3 (some .boolean) :: fm_T0) ({ frames := 0, cells := 0, slots := 0, locals := 0 }) (fm_Pc fm_lay fm_nf fm_fk fm_cl b x D dA (fm_tys dA) (fm_EX b x) false [.int v, .int lo, .int hi] n M) (fm_Qc fm_lay fm_nf fm_fk fm_cl b x D dA (fun r n' M' => r = some (.int ((if v < lo then nI 0 else (if hi < v then nI 0 else nI 1)))) ∧ n' = n ∧ M' = M)) 0 0 (fm_A b) := by
  refine fm_enter (by decide) (Nat.le_of_ble_eq_true rfl) ?_
  intro p e s m args below meth c hc hr hnm hex htg
  refine fm_iload_n hc d_Mo_within_0 rfl rfl ?_
  refine fm_iload_n hc d_Mo_within_1 rfl rfl ?_
  refine fm_icmp_lt (tgt := 14) hc d_Mo_within_2 rfl (fun g7 => ?_) (fun g7 => ?_)
  · refine fm_iconst (v := nI 0) hc d_Mo_within_14 rfl ?_
    exact fm_zret (ty := .boolean) hc hr (by first | rfl | decide) d_Mo_within_15 (Nat.le_refl _) (Nat.le_refl _) ⟨by first | rfl | rw [if_pos g7], rfl, by first | rfl | rw [if_pos g7]⟩
  · refine fm_iload_n hc d_Mo_within_5 rfl rfl ?_
    refine fm_iload_n hc d_Mo_within_6 rfl rfl ?_
    refine fm_icmp_gt (tgt := 14) hc d_Mo_within_7 rfl (fun g8 => ?_) (fun g8 => ?_)
    · refine fm_iconst (v := nI 0) hc d_Mo_within_14 rfl ?_
      exact fm_zret (ty := .boolean) hc hr (by first | rfl | decide) d_Mo_within_15 (Nat.le_refl _) (Nat.le_refl _) ⟨by first | rfl | rw [if_neg g7, if_pos g8], rfl, by first | rfl | rw [if_neg g7, if_pos g8]⟩
    · refine fm_iconst (v := nI 1) hc d_Mo_within_10 rfl ?_
      refine fm_goto (tgt := 15) hc d_Mo_within_11 rfl ?_
      exact fm_zret (ty := .boolean) hc hr (by first | rfl | decide) d_Mo_within_15 (Nat.le_refl _) (Nat.le_refl _) ⟨by first | rfl | rw [if_neg g7, if_neg g8], rfl, by first | rfl | rw [if_neg g7, if_neg g8]⟩
theorem c_Mo_thrown {l : Launch} {b : Nat} {x : Nat → Nat} {D : va_G} {dA : Nat → ClassId}  {n : Nat} {M : fm_M} (hn : 629 ≤ n) : Met l y_Mo_thrown (Cond.code y_Mo_thrown b_Mo_thrown 1 (some .int) :: fm_T0) ({ frames := 0, cells := 0, slots := 0, locals := 0 }) (fm_Pc fm_lay fm_nf fm_fk fm_cl b x D dA (fm_tys dA) (fm_EX b x) false [.ref 586] n M) (fm_Qc fm_lay fm_nf fm_fk fm_cl b x D dA (fun r n' M' => r = some (.int (M.1 586 0)) ∧ n' = n ∧ M' = M)) 0 0 (fm_A b) := by
  refine fm_enter (by decide) (Nat.le_of_ble_eq_true rfl) ?_
  intro p e s m args below meth c hc hr hnm hex htg
  refine fm_aload_n hc d_Mo_thrown_0 rfl rfl ?_
  refine fm_getI (k := 0) hc K_Mo d_Mo_thrown_1 q_885 rfl (by decide) (by omega) (by decide) (by decide) (by decide) rfl ?_
  exact fm_iret hc hr d_Mo_thrown_4 (Nat.le_refl _) (Nat.le_refl _) ⟨by first | rfl | rfl, rfl, by first | rfl | rfl⟩
theorem c_Mo_refuse {l : Launch} {b : Nat} {x : Nat → Nat} {D : va_G} {dA : Nat → ClassId} {v : Int32} {n : Nat} {M : fm_M} (hn : 629 ≤ n) : Met l y_Mo_refuse (Cond.code y_Mo_refuse b_Mo_refuse 2 (some .int) :: fm_T0) ({ frames := 0, cells := 0, slots := 0, locals := 0 }) (fm_Pc fm_lay fm_nf fm_fk fm_cl b x D dA (fm_tys dA) (fm_EX b x) false [.ref 586, .int v] n M) (fm_Qc fm_lay fm_nf fm_fk fm_cl b x D dA (fun r n' M' => r = some (.int (nI 0)) ∧ n' = n ∧ M' = fm_put1 M 586 0 v)) 0 0 (fm_A b) := by
  refine fm_enter (by decide) (Nat.le_of_ble_eq_true rfl) ?_
  intro p e s m args below meth c hc hr hnm hex htg
  refine fm_aload_n hc d_Mo_refuse_0 rfl rfl ?_
  refine fm_iload_n hc d_Mo_refuse_1 rfl rfl ?_
  refine fm_putI (k := 0) (v := v) hc K_Mo d_Mo_refuse_2 q_885 rfl (by decide) (by omega) (by decide) (by decide) (by decide) rfl rfl rfl rfl ?_
  refine fm_iconst (v := nI 0) hc d_Mo_refuse_5 rfl ?_
  exact fm_iret hc hr d_Mo_refuse_6 (Nat.le_refl _) (Nat.le_refl _) ⟨by first | rfl | rfl, rfl, by first | rfl | rfl⟩
theorem c_Mo_pairOf {l : Launch} {b : Nat} {x : Nat → Nat} {D : va_G} {dA : Nat → ClassId} {v : Int64} {n : Nat} {M : fm_M}  : Met l y_Mo_pairOf (Cond.code y_Mo_pairOf b_Mo_pairOf 2 (some .int) :: fm_T0) ({ frames := 0, cells := 0, slots := 0, locals := 0 }) (fm_Pc fm_lay fm_nf fm_fk fm_cl b x D dA (fm_tys dA) (fm_EX b x) false [.long v] n M) (fm_Qc fm_lay fm_nf fm_fk fm_cl b x D dA (fun r n' M' => r = some (.int ((v - 1099511627776).toInt32)) ∧ n' = n ∧ M' = M)) 0 0 (fm_A b) := by
  refine fm_enter (by decide) (Nat.le_of_ble_eq_true rfl) ?_
  intro p e s m args below meth c hc hr hnm hex htg
  refine fm_lload_n hc d_Mo_pairOf_0 rfl rfl ?_
  refine fm_ldc2 (v := 1099511627776) hc d_Mo_pairOf_1 q_1098 ?_
  refine fm_lsub hc d_Mo_pairOf_4 ?_
  refine fm_l2i hc d_Mo_pairOf_5 ?_
  exact fm_iret hc hr d_Mo_pairOf_6 (Nat.le_refl _) (Nat.le_refl _) ⟨by first | rfl | rfl, rfl, by first | rfl | rfl⟩
theorem c_Wi_has {l : Launch} {b : Nat} {x : Nat → Nat} {D : va_G} {dA : Nat → ClassId} {v : Int32} {n : Nat} {M : fm_M} (hn : 586 ≤ n) : Met l y_Wi_has (Cond.code y_Wi_has b_Wi_has 2 (some .boolean) :: fm_T0) ({ frames := 0, cells := 0, slots := 0, locals := 0 }) (fm_Pc fm_lay fm_nf fm_fk fm_cl b x D dA (fm_tys dA) (fm_EX b x) false [.ref 16, .int v] n M) (fm_Qc fm_lay fm_nf fm_fk fm_cl b x D dA (fun r n' M' => r = some (.int ((if v < 0 then nI 0 else (if (M.1 16 1) ≤ v then nI 0 else nI 1)))) ∧ n' = n ∧ M' = M)) 0 0 (fm_A b) := by
  refine fm_enter (by decide) (Nat.le_of_ble_eq_true rfl) ?_
  intro p e s m args below meth c hc hr hnm hex htg
  refine fm_iload_n hc d_Wi_has_0 rfl rfl ?_
  refine fm_if_lt (tgt := 16) hc d_Wi_has_1 rfl (fun g9 => ?_) (fun g9 => ?_)
  · refine fm_iconst (v := nI 0) hc d_Wi_has_16 rfl ?_
    exact fm_zret (ty := .boolean) hc hr (by first | rfl | decide) d_Wi_has_17 (Nat.le_refl _) (Nat.le_refl _) ⟨by first | rfl | rw [if_pos g9], rfl, by first | rfl | rw [if_pos g9]⟩
  · refine fm_iload_n hc d_Wi_has_4 rfl rfl ?_
    refine fm_aload_n hc d_Wi_has_5 rfl rfl ?_
    refine fm_getI (k := 1) hc K_Wi d_Wi_has_6 q_84 rfl (by decide) (by omega) (by decide) (by decide) (by decide) rfl ?_
    refine fm_icmp_ge (tgt := 16) hc d_Wi_has_9 rfl (fun g10 => ?_) (fun g10 => ?_)
    · refine fm_iconst (v := nI 0) hc d_Wi_has_16 rfl ?_
      exact fm_zret (ty := .boolean) hc hr (by first | rfl | decide) d_Wi_has_17 (Nat.le_refl _) (Nat.le_refl _) ⟨by first | rfl | rw [if_neg g9, if_pos g10], rfl, by first | rfl | rw [if_neg g9, if_pos g10]⟩
    · refine fm_iconst (v := nI 1) hc d_Wi_has_12 rfl ?_
      refine fm_goto (tgt := 17) hc d_Wi_has_13 rfl ?_
      exact fm_zret (ty := .boolean) hc hr (by first | rfl | decide) d_Wi_has_17 (Nat.le_refl _) (Nat.le_refl _) ⟨by first | rfl | rw [if_neg g9, if_neg g10], rfl, by first | rfl | rw [if_neg g9, if_neg g10]⟩
theorem c_Wi_isFull {l : Launch} {b : Nat} {x : Nat → Nat} {D : va_G} {dA : Nat → ClassId}  {n : Nat} {M : fm_M} (hn : 586 ≤ n) : Met l y_Wi_isFull (Cond.code y_Wi_isFull b_Wi_isFull 1 (some .boolean) :: fm_T0) ({ frames := 0, cells := 0, slots := 0, locals := 0 }) (fm_Pc fm_lay fm_nf fm_fk fm_cl b x D dA (fm_tys dA) (fm_EX b x) false [.ref 16] n M) (fm_Qc fm_lay fm_nf fm_fk fm_cl b x D dA (fun r n' M' => r = some (.int ((if (M.1 16 1) < (nI 20) then nI 0 else nI 1))) ∧ n' = n ∧ M' = M)) 0 0 (fm_A b) := by
  refine fm_enter (by decide) (Nat.le_of_ble_eq_true rfl) ?_
  intro p e s m args below meth c hc hr hnm hex htg
  refine fm_aload_n hc d_Wi_isFull_0 rfl rfl ?_
  refine fm_getI (k := 1) hc K_Wi d_Wi_isFull_1 q_84 rfl (by decide) (by omega) (by decide) (by decide) (by decide) rfl ?_
  refine fm_bipush (v := nI 20) hc d_Wi_isFull_4 rfl ?_
  refine fm_icmp_lt (tgt := 13) hc d_Wi_isFull_6 rfl (fun g11 => ?_) (fun g11 => ?_)
  · refine fm_iconst (v := nI 0) hc d_Wi_isFull_13 rfl ?_
    exact fm_zret (ty := .boolean) hc hr (by first | rfl | decide) d_Wi_isFull_14 (Nat.le_refl _) (Nat.le_refl _) ⟨by first | rfl | rw [if_pos g11], rfl, by first | rfl | rw [if_pos g11]⟩
  · refine fm_iconst (v := nI 1) hc d_Wi_isFull_9 rfl ?_
    refine fm_goto (tgt := 14) hc d_Wi_isFull_10 rfl ?_
    exact fm_zret (ty := .boolean) hc hr (by first | rfl | decide) d_Wi_isFull_14 (Nat.le_refl _) (Nat.le_refl _) ⟨by first | rfl | rw [if_neg g11], rfl, by first | rfl | rw [if_neg g11]⟩
