def m_Pr_init (M : fm_M) (o n : Nat) : fm_M := (fm_put1 (fm_put2 (fm_put2 (fm_put1 (fm_put1 (fm_put3 (m_Nu_init (fm_clr M n) (n) (n + 1)) o 0 (some n)) o 1 (nI 0)) o 2 (nI 0)) o 3 0) o 4 0) o 5 (nI 0))
set_option maxRecDepth 100000 in
set_option maxHeartbeats 4000000 in
theorem c_Pr_init {l : Launch} {b : Nat} {x : Nat → Nat} {D : va_G} {dA : Nat → ClassId} {o n : Nat} {M : fm_M} (h8 : 8 ≤ o) (hn : o < n) (hl : (fm_lay o).1 = 10) (hL : ∀ k, k < 5 → fm_lay (n + k) = ([(3, 0), (100, 8), (100, 8), (110, 8), (110, 8)] : List (Nat × Nat)).getD k (99, 0)) : Met l y_Pr_init (Cond.code y_Pr_init b_Pr_init 1 none :: fm_T0) ({ frames := 2, cells := 5, slots := 37, locals := 40 }) (fm_Pc fm_lay fm_nf fm_fk fm_cl b x D dA (fm_tys dA) (fm_EX b x) true [.ref o] n M) (fm_Qc fm_lay fm_nf fm_fk fm_cl b x D dA (fun r n' M' => r = none ∧ n' = n + 5 ∧ M' = m_Pr_init M o n)) 5 37 (fm_A b) := by
  refine fm_enter (by decide) (Nat.le_of_ble_eq_true rfl) ?_
  intro p e s m args below meth c hc hr hnm hex htg
  have ht := htg rfl
  refine fm_aload_n hc d_Pr_init_0 rfl rfl ?_
  refine fm_objInit hc q_99 q_29 q_30 d_Pr_init_1 (Nat.le_of_ble_eq_true rfl) (Nat.le_of_ble_eq_true rfl) ?_
  refine fm_aload_n hc d_Pr_init_4 rfl rfl ?_
  refine fm_new hc K_Nu d_Pr_init_5 q_100 q_101 q_5 (by omega) (congrArg Prod.fst (hL 0 (by decide))) (by decide) df_Nu (by omega) (Nat.le_of_ble_eq_true rfl) (Nat.le_of_ble_eq_true rfl) ?_
  refine fm_dup hc d_Pr_init_8 rfl ?_
  refine fm_callIN (av := []) (rest := [.ref n, .ref o]) (y := y_Nu_init) (bytes := b_Nu_init) hc fm_T0_good (fm_EX_st b x) hex q_104 q_5 (nx_2 hex) q_103 rfl pd_Nu_init (c_Nu_init (l := l) (b := b) (x := x) (D := D) (dA := dA) (o := n) (n := n + 1) (by omega) (by omega) (congrArg Prod.fst (hL 0 (by decide))) (hL 1 (by decide)) (hL 2 (by decide)) (hL 3 (by decide)) (hL 4 (by decide))) ⟨rfl, rfl, Nat.le_of_ble_eq_true rfl, Nat.le_of_ble_eq_true rfl⟩ ⟨(Nat.le_of_ble_eq_true rfl), (Nat.le_of_ble_eq_true rfl)⟩ (by omega) d_Pr_init_9 (Nat.le_of_ble_eq_true rfl) (fun r n2 M2 hp => ?_)
  obtain ⟨rfl, rfl, rfl⟩ := hp
  refine fm_st (st' := [.ref n, .ref o]) rfl ?_
  refine fm_mem (n' := n + 5) (M' := m_Nu_init (fm_clr M n) (n) (n + 1)) rfl rfl ?_
  refine fm_putRF (k := 0) (v := n) hc K_Pr d_Pr_init_12 q_123 rfl h8 (by omega) hl (by decide) (by decide) rfl rfl hnm rfl rfl rfl ?_
  refine fm_nm (fun M1 hM1 => ?_)
  refine fm_aload_n hc d_Pr_init_15 rfl rfl ?_
  refine fm_iconst (v := nI 0) hc d_Pr_init_16 rfl ?_
  refine fm_putI (k := 1) (v := nI 0) hc K_Pr d_Pr_init_17 q_124 rfl h8 (by omega) hl (by decide) (by decide) rfl rfl rfl rfl ?_
  refine fm_nm (fun M2 hM2 => ?_)
  refine fm_aload_n hc d_Pr_init_20 rfl rfl ?_
  refine fm_iconst (v := nI 0) hc d_Pr_init_21 rfl ?_
  refine fm_putI (k := 2) (v := nI 0) hc K_Pr d_Pr_init_22 q_125 rfl h8 (by omega) hl (by decide) (by decide) rfl rfl rfl rfl ?_
  refine fm_nm (fun M3 hM3 => ?_)
  refine fm_aload_n hc d_Pr_init_25 rfl rfl ?_
  refine fm_lconst (v := 0) hc d_Pr_init_26 rfl ?_
  refine fm_putL (k := 3) (v := 0) hc K_Pr d_Pr_init_27 q_126 rfl h8 (by omega) hl (by decide) (by decide) rfl rfl rfl rfl ?_
  refine fm_nm (fun M4 hM4 => ?_)
  refine fm_aload_n hc d_Pr_init_30 rfl rfl ?_
  refine fm_lconst (v := 0) hc d_Pr_init_31 rfl ?_
  refine fm_putL (k := 4) (v := 0) hc K_Pr d_Pr_init_32 q_127 rfl h8 (by omega) hl (by decide) (by decide) rfl rfl rfl rfl ?_
  refine fm_nm (fun M5 hM5 => ?_)
  refine fm_aload_n hc d_Pr_init_35 rfl rfl ?_
  refine fm_iconst (v := nI 0) hc d_Pr_init_36 rfl ?_
  refine fm_putI (k := 5) (v := nI 0) hc K_Pr d_Pr_init_37 q_128 rfl h8 (by omega) hl (by decide) (by decide) rfl rfl rfl rfl ?_
  refine fm_nm (fun M6 hM6 => ?_)
  exact fm_vret hc hr d_Pr_init_40 (Nat.le_of_ble_eq_true rfl) (Nat.le_of_ble_eq_true rfl) ⟨rfl, rfl, (by subst hM6; subst hM5; subst hM4; subst hM3; subst hM2; subst hM1; rfl)⟩
def m_Fr_init (M : fm_M) (o n : Nat) : fm_M := (fm_put1 (fm_put3 (m_Tr_init (fm_clr (fm_put3 (m_Tr_init (fm_clr (fm_put3 (fm_clr (fm_put3 (m_Sy_init (fm_clr M n) (n) (n + 1)) o 0 (some n)) (n + 3)) o 1 (some (n + 3))) (n + 4)) (n + 4) (n + 5)) o 2 (some (n + 4))) (n + 8)) (n + 8) (n + 9)) o 3 (some (n + 8))) o 4 (nI 0))
set_option maxRecDepth 100000 in
set_option maxHeartbeats 4000000 in
theorem c_Fr_init {l : Launch} {b : Nat} {x : Nat → Nat} {D : va_G} {dA : Nat → ClassId} {o n : Nat} {M : fm_M} (h8 : 8 ≤ o) (hn : o < n) (hl : (fm_lay o).1 = 7) (hL : ∀ k, k < 12 → fm_lay (n + k) = ([(2, 0), (100, 8), (100, 128), (101, 8), (5, 0), (110, 6), (110, 8), (110, 8), (5, 0), (110, 6), (110, 8), (110, 8)] : List (Nat × Nat)).getD k (99, 0)) : Met l y_Fr_init (Cond.code y_Fr_init b_Fr_init 1 none :: fm_T0) ({ frames := 2, cells := 12, slots := 216, locals := 40 }) (fm_Pc fm_lay fm_nf fm_fk fm_cl b x D dA (fm_tys dA) (fm_EX b x) true [.ref o] n M) (fm_Qc fm_lay fm_nf fm_fk fm_cl b x D dA (fun r n' M' => r = none ∧ n' = n + 12 ∧ M' = m_Fr_init M o n)) 12 216 (fm_A b) := by
  refine fm_enter (by decide) (Nat.le_of_ble_eq_true rfl) ?_
  intro p e s m args below meth c hc hr hnm hex htg
  have ht := htg rfl
  refine fm_aload_n hc d_Fr_init_0 rfl rfl ?_
  refine fm_objInit hc q_162 q_29 q_30 d_Fr_init_1 (Nat.le_of_ble_eq_true rfl) (Nat.le_of_ble_eq_true rfl) ?_
  refine fm_aload_n hc d_Fr_init_4 rfl rfl ?_
  refine fm_new hc K_Sy d_Fr_init_5 q_163 q_145 q_6 (by omega) (congrArg Prod.fst (hL 0 (by decide))) (by decide) df_Sy (by omega) (Nat.le_of_ble_eq_true rfl) (Nat.le_of_ble_eq_true rfl) ?_
  refine fm_dup hc d_Fr_init_8 rfl ?_
  refine fm_callIN (av := []) (rest := [.ref n, .ref o]) (y := y_Sy_init) (bytes := b_Sy_init) hc fm_T0_good (fm_EX_st b x) hex q_148 q_6 (nx_5 hex) q_147 rfl pd_Sy_init (c_Sy_init (l := l) (b := b) (x := x) (D := D) (dA := dA) (o := n) (n := n + 1) (by omega) (by omega) (congrArg Prod.fst (hL 0 (by decide))) (hL 1 (by decide)) (hL 2 (by decide))) ⟨rfl, rfl, Nat.le_of_ble_eq_true rfl, Nat.le_of_ble_eq_true rfl⟩ ⟨(Nat.le_of_ble_eq_true rfl), (Nat.le_of_ble_eq_true rfl)⟩ (by omega) d_Fr_init_9 (Nat.le_of_ble_eq_true rfl) (fun r n2 M2 hp => ?_)
  obtain ⟨rfl, rfl, rfl⟩ := hp
  refine fm_st (st' := [.ref n, .ref o]) rfl ?_
  refine fm_mem (n' := n + 3) (M' := m_Sy_init (fm_clr M n) (n) (n + 1)) rfl rfl ?_
  refine fm_putRF (k := 0) (v := n) hc K_Fr d_Fr_init_12 q_256 rfl h8 (by omega) hl (by decide) (by decide) rfl rfl hnm rfl rfl rfl ?_
  refine fm_nm (fun M1 hM1 => ?_)
  refine fm_aload_n hc d_Fr_init_15 rfl rfl ?_
  refine fm_bipush (v := nI 8) hc d_Fr_init_16 rfl ?_
  refine fm_newZ (len := 8) hc 1 d_Fr_init_18 q_255 (by omega) (hL 3 (by decide)) rfl (by decide) (by omega) (Nat.le_of_ble_eq_true rfl) (Nat.le_of_ble_eq_true rfl) ?_
  refine fm_putRF (k := 1) (v := n + 3) hc K_Fr d_Fr_init_20 q_258 rfl h8 (by omega) hl (by decide) (by decide) rfl rfl hnm rfl rfl rfl ?_
  refine fm_nm (fun M2 hM2 => ?_)
  refine fm_aload_n hc d_Fr_init_23 rfl rfl ?_
  refine fm_new hc K_Tr d_Fr_init_24 q_165 q_166 q_8 (by omega) (congrArg Prod.fst (hL 4 (by decide))) (by decide) df_Tr (by omega) (Nat.le_of_ble_eq_true rfl) (Nat.le_of_ble_eq_true rfl) ?_
  refine fm_dup hc d_Fr_init_27 rfl ?_
  refine fm_callIN (av := []) (rest := [.ref (n + 4), .ref o]) (y := y_Tr_init) (bytes := b_Tr_init) hc fm_T0_good (fm_EX_st b x) hex q_169 q_8 (nx_6 hex) q_168 rfl pd_Tr_init (c_Tr_init (l := l) (b := b) (x := x) (D := D) (dA := dA) (o := n + 4) (n := n + 5) (by omega) (by omega) (congrArg Prod.fst (hL 4 (by decide))) (hL 5 (by decide)) (hL 6 (by decide)) (hL 7 (by decide))) ⟨rfl, rfl, Nat.le_of_ble_eq_true rfl, Nat.le_of_ble_eq_true rfl⟩ ⟨(Nat.le_of_ble_eq_true rfl), (Nat.le_of_ble_eq_true rfl)⟩ (by omega) d_Fr_init_28 (Nat.le_of_ble_eq_true rfl) (fun r n2 M2 hp => ?_)
  obtain ⟨rfl, rfl, rfl⟩ := hp
  refine fm_st (st' := [.ref (n + 4), .ref o]) rfl ?_
  refine fm_mem (n' := n + 8) (M' := m_Tr_init (fm_clr M2 (n + 4)) (n + 4) (n + 5)) rfl rfl ?_
  refine fm_putRF (k := 2) (v := n + 4) hc K_Fr d_Fr_init_31 q_260 rfl h8 (by omega) hl (by decide) (by decide) rfl rfl hnm rfl rfl rfl ?_
  refine fm_nm (fun M3 hM3 => ?_)
  refine fm_aload_n hc d_Fr_init_34 rfl rfl ?_
  refine fm_new hc K_Tr d_Fr_init_35 q_165 q_166 q_8 (by omega) (congrArg Prod.fst (hL 8 (by decide))) (by decide) df_Tr (by omega) (Nat.le_of_ble_eq_true rfl) (Nat.le_of_ble_eq_true rfl) ?_
  refine fm_dup hc d_Fr_init_38 rfl ?_
  refine fm_callIN (av := []) (rest := [.ref (n + 8), .ref o]) (y := y_Tr_init) (bytes := b_Tr_init) hc fm_T0_good (fm_EX_st b x) hex q_169 q_8 (nx_6 hex) q_168 rfl pd_Tr_init (c_Tr_init (l := l) (b := b) (x := x) (D := D) (dA := dA) (o := n + 8) (n := n + 9) (by omega) (by omega) (congrArg Prod.fst (hL 8 (by decide))) (hL 9 (by decide)) (hL 10 (by decide)) (hL 11 (by decide))) ⟨rfl, rfl, Nat.le_of_ble_eq_true rfl, Nat.le_of_ble_eq_true rfl⟩ ⟨(Nat.le_of_ble_eq_true rfl), (Nat.le_of_ble_eq_true rfl)⟩ (by omega) d_Fr_init_39 (Nat.le_of_ble_eq_true rfl) (fun r n2 M2 hp => ?_)
  obtain ⟨rfl, rfl, rfl⟩ := hp
  refine fm_st (st' := [.ref (n + 8), .ref o]) rfl ?_
  refine fm_mem (n' := n + 12) (M' := m_Tr_init (fm_clr M3 (n + 8)) (n + 8) (n + 9)) rfl rfl ?_
  refine fm_putRF (k := 3) (v := n + 8) hc K_Fr d_Fr_init_42 q_261 rfl h8 (by omega) hl (by decide) (by decide) rfl rfl hnm rfl rfl rfl ?_
  refine fm_nm (fun M4 hM4 => ?_)
  refine fm_aload_n hc d_Fr_init_45 rfl rfl ?_
  refine fm_iconst (v := nI 0) hc d_Fr_init_46 rfl ?_
  refine fm_putI (k := 4) (v := nI 0) hc K_Fr d_Fr_init_47 q_262 rfl h8 (by omega) hl (by decide) (by decide) rfl rfl rfl rfl ?_
  refine fm_nm (fun M5 hM5 => ?_)
  exact fm_vret hc hr d_Fr_init_50 (Nat.le_of_ble_eq_true rfl) (Nat.le_of_ble_eq_true rfl) ⟨rfl, rfl, (by subst hM5; subst hM4; subst hM3; subst hM2; subst hM1; rfl)⟩
def m_Si_init (M : fm_M) (o n : Nat) (h : Int32) : fm_M := (fm_put1 (fm_put3 (m_Me_init (fm_clr (fm_put3 (m_Me_init (fm_clr (fm_put3 (m_Me_init (fm_clr (fm_put1 (fm_put1 M o 1 (nI 1)) o 2 (nI 0)) n) (n) (n + 1)) o 3 (some n)) (n + 41)) (n + 41) (n + 42)) o 4 (some (n + 41))) (n + 82)) (n + 82) (n + 83)) o 5 (some (n + 82))) o 0 h)
set_option maxRecDepth 100000 in
set_option maxHeartbeats 4000000 in
theorem c_Si_init {l : Launch} {b : Nat} {x : Nat → Nat} {D : va_G} {dA : Nat → ClassId} {o n : Nat} {M : fm_M} {h : Int32} (h8 : 8 ≤ o) (hn : o < n) (hl : (fm_lay o).1 = 8) (hL : ∀ v, v < 3 → ∀ k, k < 41 → fm_lay (n + 41 * v + k) = fm_layM.getD k (99, 0)) : Met l y_Si_init (Cond.code y_Si_init b_Si_init 2 none :: fm_T0) ({ frames := 4, cells := 123, slots := 1392, locals := 90 }) (fm_Pc fm_lay fm_nf fm_fk fm_cl b x D dA (fm_tys dA) (fm_EX b x) true [.ref o, .int h] n M) (fm_Qc fm_lay fm_nf fm_fk fm_cl b x D dA (fun r n' M' => r = none ∧ n' = n + 123 ∧ M' = m_Si_init M o n h)) 123 1392 (fm_A b) := by
  refine fm_enter (by decide) (Nat.le_of_ble_eq_true rfl) ?_
  intro p e s m args below meth c hc hr hnm hex htg
  have ht := htg rfl
  refine fm_aload_n hc d_Si_init_0 rfl rfl ?_
  refine fm_objInit hc q_290 q_29 q_30 d_Si_init_1 (Nat.le_of_ble_eq_true rfl) (Nat.le_of_ble_eq_true rfl) ?_
  refine fm_aload_n hc d_Si_init_4 rfl rfl ?_
  refine fm_iconst (v := nI 1) hc d_Si_init_5 rfl ?_
  refine fm_putI (k := 1) (v := nI 1) hc K_Si d_Si_init_6 q_333 rfl h8 (by omega) hl (by decide) (by decide) rfl rfl rfl rfl ?_
  refine fm_nm (fun M1 hM1 => ?_)
  refine fm_aload_n hc d_Si_init_9 rfl rfl ?_
  refine fm_iconst (v := nI 0) hc d_Si_init_10 rfl ?_
  refine fm_putI (k := 2) (v := nI 0) hc K_Si d_Si_init_11 q_335 rfl h8 (by omega) hl (by decide) (by decide) rfl rfl rfl rfl ?_
  refine fm_nm (fun M2 hM2 => ?_)
  refine fm_aload_n hc d_Si_init_14 rfl rfl ?_
  refine fm_new hc K_Me d_Si_init_15 q_291 q_292 q_11 (by omega) (by
      have h := hL 0 (by decide) 0 (by decide)
      exact congrArg Prod.fst h) (by decide) df_Me (by omega) (Nat.le_of_ble_eq_true rfl) (Nat.le_of_ble_eq_true rfl) ?_
  refine fm_dup hc d_Si_init_18 rfl ?_
  refine fm_callI (av := []) (rest := [.ref n, .ref o]) (y := y_Me_init) (bytes := b_Me_init) hc fm_T0_good (fm_EX_st b x) hex q_295 q_11 q_293 q_294 rfl pd_Me_init (c_Me_init (l := l) (b := b) (x := x) (D := D) (dA := dA) (o := n) (n := n + 1) (by omega) (by omega) (by
      have h := hL 0 (by decide) 0 (by decide)
      exact congrArg Prod.fst h) (fun k hk => by
      have h := hL 0 (by decide) (k + 1) (by omega)
      rwa [show n + 41 * 0 + (k + 1) = n + 1 + k by omega] at h)) ⟨rfl, rfl, Nat.le_of_ble_eq_true rfl, Nat.le_of_ble_eq_true rfl⟩ ⟨(Nat.le_of_ble_eq_true rfl), (Nat.le_of_ble_eq_true rfl)⟩ (by omega) d_Si_init_19 (Nat.le_of_ble_eq_true rfl) (fun r n2 M2 hp => ?_)
  obtain ⟨rfl, rfl, rfl⟩ := hp
  refine fm_st (st' := [.ref n, .ref o]) rfl ?_
  refine fm_mem (n' := n + 41) (M' := m_Me_init (fm_clr M2 n) (n) (n + 1)) rfl rfl ?_
  refine fm_putR (k := 3) (v := n) hc K_Si d_Si_init_22 q_337 rfl h8 (by omega) hl (by decide) (by decide) rfl rfl rfl rfl ?_
  refine fm_nm (fun M3 hM3 => ?_)
  refine fm_aload_n hc d_Si_init_25 rfl rfl ?_
  refine fm_new hc K_Me d_Si_init_26 q_291 q_292 q_11 (by omega) (by
      have h := hL 1 (by decide) 0 (by decide)
      exact congrArg Prod.fst h) (by decide) df_Me (by omega) (Nat.le_of_ble_eq_true rfl) (Nat.le_of_ble_eq_true rfl) ?_
  refine fm_dup hc d_Si_init_29 rfl ?_
  refine fm_callI (av := []) (rest := [.ref (n + 41), .ref o]) (y := y_Me_init) (bytes := b_Me_init) hc fm_T0_good (fm_EX_st b x) hex q_295 q_11 q_293 q_294 rfl pd_Me_init (c_Me_init (l := l) (b := b) (x := x) (D := D) (dA := dA) (o := n + 41) (n := n + 42) (by omega) (by omega) (by
      have h := hL 1 (by decide) 0 (by decide)
      exact congrArg Prod.fst h) (fun k hk => by
      have h := hL 1 (by decide) (k + 1) (by omega)
      rwa [show n + 41 * 1 + (k + 1) = n + 42 + k by omega] at h)) ⟨rfl, rfl, Nat.le_of_ble_eq_true rfl, Nat.le_of_ble_eq_true rfl⟩ ⟨(Nat.le_of_ble_eq_true rfl), (Nat.le_of_ble_eq_true rfl)⟩ (by omega) d_Si_init_30 (Nat.le_of_ble_eq_true rfl) (fun r n2 M2 hp => ?_)
  obtain ⟨rfl, rfl, rfl⟩ := hp
  refine fm_st (st' := [.ref (n + 41), .ref o]) rfl ?_
  refine fm_mem (n' := n + 82) (M' := m_Me_init (fm_clr M3 (n + 41)) (n + 41) (n + 42)) rfl rfl ?_
  refine fm_putR (k := 4) (v := n + 41) hc K_Si d_Si_init_33 q_339 rfl h8 (by omega) hl (by decide) (by decide) rfl rfl rfl rfl ?_
  refine fm_nm (fun M4 hM4 => ?_)
  refine fm_aload_n hc d_Si_init_36 rfl rfl ?_
  refine fm_new hc K_Me d_Si_init_37 q_291 q_292 q_11 (by omega) (by
      have h := hL 2 (by decide) 0 (by decide)
      exact congrArg Prod.fst h) (by decide) df_Me (by omega) (Nat.le_of_ble_eq_true rfl) (Nat.le_of_ble_eq_true rfl) ?_
  refine fm_dup hc d_Si_init_40 rfl ?_
  refine fm_callI (av := []) (rest := [.ref (n + 82), .ref o]) (y := y_Me_init) (bytes := b_Me_init) hc fm_T0_good (fm_EX_st b x) hex q_295 q_11 q_293 q_294 rfl pd_Me_init (c_Me_init (l := l) (b := b) (x := x) (D := D) (dA := dA) (o := n + 82) (n := n + 83) (by omega) (by omega) (by
      have h := hL 2 (by decide) 0 (by decide)
      exact congrArg Prod.fst h) (fun k hk => by
      have h := hL 2 (by decide) (k + 1) (by omega)
      rwa [show n + 41 * 2 + (k + 1) = n + 83 + k by omega] at h)) ⟨rfl, rfl, Nat.le_of_ble_eq_true rfl, Nat.le_of_ble_eq_true rfl⟩ ⟨(Nat.le_of_ble_eq_true rfl), (Nat.le_of_ble_eq_true rfl)⟩ (by omega) d_Si_init_41 (Nat.le_of_ble_eq_true rfl) (fun r n2 M2 hp => ?_)
  obtain ⟨rfl, rfl, rfl⟩ := hp
  refine fm_st (st' := [.ref (n + 82), .ref o]) rfl ?_
  refine fm_mem (n' := n + 123) (M' := m_Me_init (fm_clr M4 (n + 82)) (n + 82) (n + 83)) rfl rfl ?_
  refine fm_putR (k := 5) (v := n + 82) hc K_Si d_Si_init_44 q_341 rfl h8 (by omega) hl (by decide) (by decide) rfl rfl rfl rfl ?_
  refine fm_nm (fun M5 hM5 => ?_)
  refine fm_aload_n hc d_Si_init_47 rfl rfl ?_
  refine fm_iload_n hc d_Si_init_48 rfl rfl ?_
  refine fm_putIF (k := 0) (v := h) hc K_Si d_Si_init_49 q_332 rfl h8 (by omega) hl (by decide) (by decide) rfl rfl hnm rfl rfl rfl ?_
  refine fm_nm (fun M6 hM6 => ?_)
  exact fm_vret hc hr d_Si_init_52 (Nat.le_of_ble_eq_true rfl) (Nat.le_of_ble_eq_true rfl) ⟨rfl, rfl, (by subst hM6; subst hM5; subst hM4; subst hM3; subst hM2; subst hM1; rfl)⟩
