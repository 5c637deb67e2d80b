def m_Tr_init (M : fm_M) (o n : Nat) : fm_M := fm_put3 (fm_clr (fm_put3 (fm_clr (fm_put3 (fm_clr (fm_put1 (fm_put1 (fm_put1 (fm_put1 (fm_put1 (fm_put1 (fm_put1 (fm_put1 (fm_put1 (fm_put1 M o 0 (nI 0)) o 1 (nI 0)) o 2 (nI 0)) o 3 (nI 0)) o 4 (nI 0)) o 5 (nI 0)) o 6 (nI 0)) o 7 (nI 0)) o 8 (nI 0)) o 9 (nI 0)) n) o 10 (some n)) (n + 1)) o 11 (some (n + 1))) (n + 2)) o 12 (some (n + 2))
set_option maxRecDepth 100000 in
set_option maxHeartbeats 4000000 in
theorem c_Tr_init {l : Launch} {b : Nat} {x : Nat → Nat} {D : va_G} {dA : Nat → ClassId} {o n : Nat} {M : fm_M} (h8 : 8 ≤ o) (hn : o < n) (hl : (fm_lay o).1 = 5) (hl1 : fm_lay n = (110, 6)) (hl2 : fm_lay (n + 1) = (110, 8)) (hl3 : fm_lay (n + 2) = (110, 8)) : Met l y_Tr_init (Cond.code y_Tr_init b_Tr_init 1 none :: fm_T0) ({ frames := 1, cells := 3, slots := 22, locals := 13 }) (fm_Pc fm_lay fm_nf fm_fk fm_cl b x D dA (fm_tys dA) (fm_EX b x) true [.ref o] n M) (fm_Qc fm_lay fm_nf fm_fk fm_cl b x D dA (fun r n' M' => r = none ∧ n' = n + 3 ∧ M' = m_Tr_init M o n)) 3 22 (fm_A b) := by
  refine fm_enter (by decide) (Nat.le_of_ble_eq_true rfl) ?_
  intro p e s m args below meth c hc hr hnm hex htg
  have ht := htg rfl
  refine fm_aload_n hc d_Tr_init_0 rfl rfl ?_
  refine fm_objInit hc q_170 q_29 q_30 d_Tr_init_1 (Nat.le_of_ble_eq_true rfl) (Nat.le_of_ble_eq_true rfl) ?_
  refine fm_aload_n hc d_Tr_init_4 rfl rfl ?_
  refine fm_iconst (v := nI 0) hc d_Tr_init_5 rfl ?_
  refine fm_putI (k := 0) (v := nI 0) hc K_Tr d_Tr_init_6 q_171 rfl h8 (by omega) hl (by decide) (by decide) rfl rfl rfl rfl ?_
  refine fm_aload_n hc d_Tr_init_9 rfl rfl ?_
  refine fm_iconst (v := nI 0) hc d_Tr_init_10 rfl ?_
  refine fm_putI (k := 1) (v := nI 0) hc K_Tr d_Tr_init_11 q_176 rfl h8 (by omega) hl (by decide) (by decide) rfl rfl rfl rfl ?_
  refine fm_aload_n hc d_Tr_init_14 rfl rfl ?_
  refine fm_iconst (v := nI 0) hc d_Tr_init_15 rfl ?_
  refine fm_putI (k := 2) (v := nI 0) hc K_Tr d_Tr_init_16 q_180 rfl h8 (by omega) hl (by decide) (by decide) rfl rfl rfl rfl ?_
  refine fm_aload_n hc d_Tr_init_19 rfl rfl ?_
  refine fm_iconst (v := nI 0) hc d_Tr_init_20 rfl ?_
  refine fm_putI (k := 3) (v := nI 0) hc K_Tr d_Tr_init_21 q_183 rfl h8 (by omega) hl (by decide) (by decide) rfl rfl rfl rfl ?_
  refine fm_aload_n hc d_Tr_init_24 rfl rfl ?_
  refine fm_iconst (v := nI 0) hc d_Tr_init_25 rfl ?_
  refine fm_putI (k := 4) (v := nI 0) hc K_Tr d_Tr_init_26 q_188 rfl h8 (by omega) hl (by decide) (by decide) rfl rfl rfl rfl ?_
  refine fm_aload_n hc d_Tr_init_29 rfl rfl ?_
  refine fm_iconst (v := nI 0) hc d_Tr_init_30 rfl ?_
  refine fm_putI (k := 5) (v := nI 0) hc K_Tr d_Tr_init_31 q_194 rfl h8 (by omega) hl (by decide) (by decide) rfl rfl rfl rfl ?_
  refine fm_aload_n hc d_Tr_init_34 rfl rfl ?_
  refine fm_iconst (v := nI 0) hc d_Tr_init_35 rfl ?_
  refine fm_putI (k := 6) (v := nI 0) hc K_Tr d_Tr_init_36 q_199 rfl h8 (by omega) hl (by decide) (by decide) rfl rfl rfl rfl ?_
  refine fm_aload_n hc d_Tr_init_39 rfl rfl ?_
  refine fm_iconst (v := nI 0) hc d_Tr_init_40 rfl ?_
  refine fm_putI (k := 7) (v := nI 0) hc K_Tr d_Tr_init_41 q_204 rfl h8 (by omega) hl (by decide) (by decide) rfl rfl rfl rfl ?_
  refine fm_aload_n hc d_Tr_init_44 rfl rfl ?_
  refine fm_iconst (v := nI 0) hc d_Tr_init_45 rfl ?_
  refine fm_putI (k := 8) (v := nI 0) hc K_Tr d_Tr_init_46 q_208 rfl h8 (by omega) hl (by decide) (by decide) rfl rfl rfl rfl ?_
  refine fm_aload_n hc d_Tr_init_49 rfl rfl ?_
  refine fm_iconst (v := nI 0) hc d_Tr_init_50 rfl ?_
  refine fm_putI (k := 9) (v := nI 0) hc K_Tr d_Tr_init_51 q_212 rfl h8 (by omega) hl (by decide) (by decide) rfl rfl rfl rfl ?_
  refine fm_aload_n hc d_Tr_init_54 rfl rfl ?_
  refine fm_bipush (v := nI 6) hc d_Tr_init_55 rfl ?_
  refine fm_newL (len := 6) hc 3 d_Tr_init_57 q_122 (by omega) hl1 rfl (by decide) (by omega) (Nat.le_of_ble_eq_true rfl) (Nat.le_of_ble_eq_true rfl) ?_
  refine fm_putRF (k := 10) (v := n) hc K_Tr d_Tr_init_59 q_216 rfl h8 (by omega) hl (by decide) (by decide) rfl rfl hnm rfl rfl rfl ?_
  refine fm_aload_n hc d_Tr_init_62 rfl rfl ?_
  refine fm_bipush (v := nI 8) hc d_Tr_init_63 rfl ?_
  refine fm_newL (len := 8) hc 3 d_Tr_init_65 q_122 (by omega) hl2 rfl (by decide) (by omega) (Nat.le_of_ble_eq_true rfl) (Nat.le_of_ble_eq_true rfl) ?_
  refine fm_putRF (k := 11) (v := n + 1) hc K_Tr d_Tr_init_67 q_220 rfl h8 (by omega) hl (by decide) (by decide) rfl rfl hnm rfl rfl rfl ?_
  refine fm_aload_n hc d_Tr_init_70 rfl rfl ?_
  refine fm_bipush (v := nI 8) hc d_Tr_init_71 rfl ?_
  refine fm_newL (len := 8) hc 3 d_Tr_init_73 q_122 (by omega) hl3 rfl (by decide) (by omega) (Nat.le_of_ble_eq_true rfl) (Nat.le_of_ble_eq_true rfl) ?_
  refine fm_putRF (k := 12) (v := n + 2) hc K_Tr d_Tr_init_75 q_224 rfl h8 (by omega) hl (by decide) (by decide) rfl rfl hnm rfl rfl rfl ?_
  exact fm_vret hc hr d_Tr_init_78 (Nat.le_of_ble_eq_true rfl) (Nat.le_of_ble_eq_true rfl) ⟨rfl, rfl, rfl⟩
def m_Sc_init (M : fm_M) (o n : Nat) : fm_M := fm_put1 (fm_put3 (fm_clr M n) o 0 (some n)) o 1 (nI 0)
set_option maxRecDepth 100000 in
set_option maxHeartbeats 4000000 in
theorem c_Sc_init {l : Launch} {b : Nat} {x : Nat → Nat} {D : va_G} {dA : Nat → ClassId} {o n : Nat} {M : fm_M} (h8 : 8 ≤ o) (hn : o < n) (hl : (fm_lay o).1 = 1) (hl1 : fm_lay n = (100, 48)) : Met l y_Sc_init (Cond.code y_Sc_init b_Sc_init 1 none :: fm_T0) ({ frames := 1, cells := 1, slots := 48, locals := 13 }) (fm_Pc fm_lay fm_nf fm_fk fm_cl b x D dA (fm_tys dA) (fm_EX b x) true [.ref o] n M) (fm_Qc fm_lay fm_nf fm_fk fm_cl b x D dA (fun r n' M' => r = none ∧ n' = n + 1 ∧ M' = m_Sc_init M o n)) 1 48 (fm_A b) := by
  refine fm_enter (by decide) (Nat.le_of_ble_eq_true rfl) ?_
  intro p e s m args below meth c hc hr hnm hex htg
  have ht := htg rfl
  refine fm_aload_n hc d_Sc_init_0 rfl rfl ?_
  refine fm_objInit hc q_278 q_29 q_30 d_Sc_init_1 (Nat.le_of_ble_eq_true rfl) (Nat.le_of_ble_eq_true rfl) ?_
  refine fm_aload_n hc d_Sc_init_4 rfl rfl ?_
  refine fm_bipush (v := nI 48) hc d_Sc_init_5 rfl ?_
  refine fm_newI (len := 48) hc 0 d_Sc_init_7 q_80 (by omega) hl1 rfl (by decide) (by omega) (Nat.le_of_ble_eq_true rfl) (Nat.le_of_ble_eq_true rfl) ?_
  refine fm_putRF (k := 0) (v := n) hc K_Sc d_Sc_init_9 q_279 rfl h8 (by omega) hl (by decide) (by decide) rfl rfl hnm rfl rfl rfl ?_
  refine fm_aload_n hc d_Sc_init_12 rfl rfl ?_
  refine fm_iconst (v := nI 0) hc d_Sc_init_13 rfl ?_
  refine fm_putI (k := 1) (v := nI 0) hc K_Sc d_Sc_init_14 q_280 rfl h8 (by omega) hl (by decide) (by decide) rfl rfl rfl rfl ?_
  exact fm_vret hc hr d_Sc_init_17 (Nat.le_of_ble_eq_true rfl) (Nat.le_of_ble_eq_true rfl) ⟨rfl, rfl, rfl⟩
def m_Sy_init (M : fm_M) (o n : Nat) : fm_M := fm_put3 (fm_clr (fm_put3 (fm_clr M n) o 0 (some n)) (n + 1)) o 1 (some (n + 1))
set_option maxRecDepth 100000 in
set_option maxHeartbeats 4000000 in
theorem c_Sy_init {l : Launch} {b : Nat} {x : Nat → Nat} {D : va_G} {dA : Nat → ClassId} {o n : Nat} {M : fm_M} (h8 : 8 ≤ o) (hn : o < n) (hl : (fm_lay o).1 = 2) (hl1 : fm_lay n = (100, 8)) (hl2 : fm_lay (n + 1) = (100, 128)) : Met l y_Sy_init (Cond.code y_Sy_init b_Sy_init 1 none :: fm_T0) ({ frames := 1, cells := 2, slots := 136, locals := 13 }) (fm_Pc fm_lay fm_nf fm_fk fm_cl b x D dA (fm_tys dA) (fm_EX b x) true [.ref o] n M) (fm_Qc fm_lay fm_nf fm_fk fm_cl b x D dA (fun r n' M' => r = none ∧ n' = n + 2 ∧ M' = m_Sy_init M o n)) 2 136 (fm_A b) := by
  refine fm_enter (by decide) (Nat.le_of_ble_eq_true rfl) ?_
  intro p e s m args below meth c hc hr hnm hex htg
  have ht := htg rfl
  refine fm_aload_n hc d_Sy_init_0 rfl rfl ?_
  refine fm_objInit hc q_149 q_29 q_30 d_Sy_init_1 (Nat.le_of_ble_eq_true rfl) (Nat.le_of_ble_eq_true rfl) ?_
  refine fm_aload_n hc d_Sy_init_4 rfl rfl ?_
  refine fm_bipush (v := nI 8) hc d_Sy_init_5 rfl ?_
  refine fm_newI (len := 8) hc 0 d_Sy_init_7 q_80 (by omega) hl1 rfl (by decide) (by omega) (Nat.le_of_ble_eq_true rfl) (Nat.le_of_ble_eq_true rfl) ?_
  refine fm_putRF (k := 0) (v := n) hc K_Sy d_Sy_init_9 q_150 rfl h8 (by omega) hl (by decide) (by decide) rfl rfl hnm rfl rfl rfl ?_
  refine fm_aload_n hc d_Sy_init_12 rfl rfl ?_
  refine fm_sipush (v := nI 128) hc d_Sy_init_13 rfl ?_
  refine fm_newI (len := 128) hc 0 d_Sy_init_16 q_80 (by omega) hl2 rfl (by decide) (by omega) (Nat.le_of_ble_eq_true rfl) (Nat.le_of_ble_eq_true rfl) ?_
  refine fm_putRF (k := 1) (v := n + 1) hc K_Sy d_Sy_init_18 q_151 rfl h8 (by omega) hl (by decide) (by decide) rfl rfl hnm rfl rfl rfl ?_
  exact fm_vret hc hr d_Sy_init_21 (Nat.le_of_ble_eq_true rfl) (Nat.le_of_ble_eq_true rfl) ⟨rfl, rfl, rfl⟩
def m_Nu_init (M : fm_M) (o n : Nat) : fm_M := fm_put1 (fm_put3 (fm_clr (fm_put3 (fm_clr (fm_put3 (fm_clr (fm_put3 (fm_clr M n) o 0 (some n)) (n + 1)) o 1 (some (n + 1))) (n + 2)) o 2 (some (n + 2))) (n + 3)) o 3 (some (n + 3))) o 4 (nI 0)
set_option maxRecDepth 100000 in
set_option maxHeartbeats 4000000 in
theorem c_Nu_init {l : Launch} {b : Nat} {x : Nat → Nat} {D : va_G} {dA : Nat → ClassId} {o n : Nat} {M : fm_M} (h8 : 8 ≤ o) (hn : o < n) (hl : (fm_lay o).1 = 3) (hl1 : fm_lay n = (100, 8)) (hl2 : fm_lay (n + 1) = (100, 8)) (hl3 : fm_lay (n + 2) = (110, 8)) (hl4 : fm_lay (n + 3) = (110, 8)) : Met l y_Nu_init (Cond.code y_Nu_init b_Nu_init 1 none :: fm_T0) ({ frames := 1, cells := 4, slots := 32, locals := 13 }) (fm_Pc fm_lay fm_nf fm_fk fm_cl b x D dA (fm_tys dA) (fm_EX b x) true [.ref o] n M) (fm_Qc fm_lay fm_nf fm_fk fm_cl b x D dA (fun r n' M' => r = none ∧ n' = n + 4 ∧ M' = m_Nu_init M o n)) 4 32 (fm_A b) := by
  refine fm_enter (by decide) (Nat.le_of_ble_eq_true rfl) ?_
  intro p e s m args below meth c hc hr hnm hex htg
  have ht := htg rfl
  refine fm_aload_n hc d_Nu_init_0 rfl rfl ?_
  refine fm_objInit hc q_105 q_29 q_30 d_Nu_init_1 (Nat.le_of_ble_eq_true rfl) (Nat.le_of_ble_eq_true rfl) ?_
  refine fm_aload_n hc d_Nu_init_4 rfl rfl ?_
  refine fm_bipush (v := nI 8) hc d_Nu_init_5 rfl ?_
  refine fm_newI (len := 8) hc 0 d_Nu_init_7 q_80 (by omega) hl1 rfl (by decide) (by omega) (Nat.le_of_ble_eq_true rfl) (Nat.le_of_ble_eq_true rfl) ?_
  refine fm_putRF (k := 0) (v := n) hc K_Nu d_Nu_init_9 q_106 rfl h8 (by omega) hl (by decide) (by decide) rfl rfl hnm rfl rfl rfl ?_
  refine fm_aload_n hc d_Nu_init_12 rfl rfl ?_
  refine fm_bipush (v := nI 8) hc d_Nu_init_13 rfl ?_
  refine fm_newI (len := 8) hc 0 d_Nu_init_15 q_80 (by omega) hl2 rfl (by decide) (by omega) (Nat.le_of_ble_eq_true rfl) (Nat.le_of_ble_eq_true rfl) ?_
  refine fm_putRF (k := 1) (v := n + 1) hc K_Nu d_Nu_init_17 q_107 rfl h8 (by omega) hl (by decide) (by decide) rfl rfl hnm rfl rfl rfl ?_
  refine fm_aload_n hc d_Nu_init_20 rfl rfl ?_
  refine fm_bipush (v := nI 8) hc d_Nu_init_21 rfl ?_
  refine fm_newL (len := 8) hc 3 d_Nu_init_23 q_122 (by omega) hl3 rfl (by decide) (by omega) (Nat.le_of_ble_eq_true rfl) (Nat.le_of_ble_eq_true rfl) ?_
  refine fm_putRF (k := 2) (v := n + 2) hc K_Nu d_Nu_init_25 q_108 rfl h8 (by omega) hl (by decide) (by decide) rfl rfl hnm rfl rfl rfl ?_
  refine fm_aload_n hc d_Nu_init_28 rfl rfl ?_
  refine fm_bipush (v := nI 8) hc d_Nu_init_29 rfl ?_
  refine fm_newL (len := 8) hc 3 d_Nu_init_31 q_122 (by omega) hl4 rfl (by decide) (by omega) (Nat.le_of_ble_eq_true rfl) (Nat.le_of_ble_eq_true rfl) ?_
  refine fm_putRF (k := 3) (v := n + 3) hc K_Nu d_Nu_init_33 q_109 rfl h8 (by omega) hl (by decide) (by decide) rfl rfl hnm rfl rfl rfl ?_
  refine fm_aload_n hc d_Nu_init_36 rfl rfl ?_
  refine fm_iconst (v := nI 0) hc d_Nu_init_37 rfl ?_
  refine fm_putI (k := 4) (v := nI 0) hc K_Nu d_Nu_init_38 q_110 rfl h8 (by omega) hl (by decide) (by decide) rfl rfl rfl rfl ?_
  exact fm_vret hc hr d_Nu_init_41 (Nat.le_of_ble_eq_true rfl) (Nat.le_of_ble_eq_true rfl) ⟨rfl, rfl, rfl⟩
def m_Ms_init (M : fm_M) (o n : Nat) : fm_M := fm_put3 (fm_clr (fm_put1 (fm_put1 (fm_put1 (fm_put1 (fm_put1 (fm_put1 (fm_put1 M o 0 (nI 0)) o 1 (nI 0)) o 2 (nI 0)) o 3 (nI 0)) o 4 (nI 0)) o 5 (nI 0)) o 6 (nI 0)) n) o 7 (some n)
set_option maxRecDepth 100000 in
set_option maxHeartbeats 4000000 in
theorem c_Ms_init {l : Launch} {b : Nat} {x : Nat → Nat} {D : va_G} {dA : Nat → ClassId} {o n : Nat} {M : fm_M} (h8 : 8 ≤ o) (hn : o < n) (hl : (fm_lay o).1 = 9) (hl1 : fm_lay n = (102, 121)) : Met l y_Ms_init (Cond.code y_Ms_init b_Ms_init 1 none :: fm_T0) ({ frames := 1, cells := 1, slots := 121, locals := 13 }) (fm_Pc fm_lay fm_nf fm_fk fm_cl b x D dA (fm_tys dA) (fm_EX b x) true [.ref o] n M) (fm_Qc fm_lay fm_nf fm_fk fm_cl b x D dA (fun r n' M' => r = none ∧ n' = n + 1 ∧ M' = m_Ms_init M o n)) 1 121 (fm_A b) := by
  refine fm_enter (by decide) (Nat.le_of_ble_eq_true rfl) ?_
  intro p e s m args below meth c hc hr hnm hex htg
  have ht := htg rfl
  refine fm_aload_n hc d_Ms_init_0 rfl rfl ?_
  refine fm_objInit hc q_49 q_29 q_30 d_Ms_init_1 (Nat.le_of_ble_eq_true rfl) (Nat.le_of_ble_eq_true rfl) ?_
  refine fm_aload_n hc d_Ms_init_4 rfl rfl ?_
  refine fm_iconst (v := nI 0) hc d_Ms_init_5 rfl ?_
  refine fm_putI (k := 0) (v := nI 0) hc K_Ms d_Ms_init_6 q_50 rfl h8 (by omega) hl (by decide) (by decide) rfl rfl rfl rfl ?_
  refine fm_aload_n hc d_Ms_init_9 rfl rfl ?_
  refine fm_iconst (v := nI 0) hc d_Ms_init_10 rfl ?_
  refine fm_putI (k := 1) (v := nI 0) hc K_Ms d_Ms_init_11 q_52 rfl h8 (by omega) hl (by decide) (by decide) rfl rfl rfl rfl ?_
  refine fm_aload_n hc d_Ms_init_14 rfl rfl ?_
  refine fm_iconst (v := nI 0) hc d_Ms_init_15 rfl ?_
  refine fm_putI (k := 2) (v := nI 0) hc K_Ms d_Ms_init_16 q_54 rfl h8 (by omega) hl (by decide) (by decide) rfl rfl rfl rfl ?_
  refine fm_aload_n hc d_Ms_init_19 rfl rfl ?_
  refine fm_iconst (v := nI 0) hc d_Ms_init_20 rfl ?_
  refine fm_putI (k := 3) (v := nI 0) hc K_Ms d_Ms_init_21 q_56 rfl h8 (by omega) hl (by decide) (by decide) rfl rfl rfl rfl ?_
  refine fm_aload_n hc d_Ms_init_24 rfl rfl ?_
  refine fm_iconst (v := nI 0) hc d_Ms_init_25 rfl ?_
  refine fm_putI (k := 4) (v := nI 0) hc K_Ms d_Ms_init_26 q_58 rfl h8 (by omega) hl (by decide) (by decide) rfl rfl rfl rfl ?_
  refine fm_aload_n hc d_Ms_init_29 rfl rfl ?_
  refine fm_iconst (v := nI 0) hc d_Ms_init_30 rfl ?_
  refine fm_putI (k := 5) (v := nI 0) hc K_Ms d_Ms_init_31 q_60 rfl h8 (by omega) hl (by decide) (by decide) rfl rfl rfl rfl ?_
  refine fm_aload_n hc d_Ms_init_34 rfl rfl ?_
  refine fm_iconst (v := nI 0) hc d_Ms_init_35 rfl ?_
  refine fm_putI (k := 6) (v := nI 0) hc K_Ms d_Ms_init_36 q_61 rfl h8 (by omega) hl (by decide) (by decide) rfl rfl rfl rfl ?_
  refine fm_aload_n hc d_Ms_init_39 rfl rfl ?_
  refine fm_bipush (v := nI 121) hc d_Ms_init_40 rfl ?_
  refine fm_newB (len := 121) hc 2 d_Ms_init_42 q_81 (by omega) hl1 rfl (by decide) (by omega) (Nat.le_of_ble_eq_true rfl) (Nat.le_of_ble_eq_true rfl) ?_
  refine fm_putRF (k := 7) (v := n) hc K_Ms d_Ms_init_44 q_62 rfl h8 (by omega) hl (by decide) (by decide) rfl rfl hnm rfl rfl rfl ?_
  exact fm_vret hc hr d_Ms_init_47 (Nat.le_of_ble_eq_true rfl) (Nat.le_of_ble_eq_true rfl) ⟨rfl, rfl, rfl⟩
