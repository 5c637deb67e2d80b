def m_An0 (M : fm_M) : fm_M := (fm_put1 (fm_put3 (m_Fr_init (fm_clr (fm_put3 (m_Sy_init (fm_clr (fm_put3 (m_Pr_init (fm_clr (fm_put3 (m_Wi_init (fm_clr (fm_put3 (fm_clr (fm_put3 (fm_mm ((fm_put3 (fm_clr M 9) 8 0 (some 9))) 10 4) 8 1 (some 10)) 15) 8 2 (some 15)) 16) 16 17) 8 3 (some 16)) 60) 60 61) 8 4 (some 60)) 66) 66 67) 8 5 (some 66)) 69) 69 70) 8 6 (some 69)) 8 7 (nI 0))
def m_AnS (M : fm_M) : Nat → fm_M
  | 0 => m_An0 M
  | i + 1 => fm_put3 (m_Sc_init (fm_clr (m_AnS M i) (82 + 2 * i)) (82 + 2 * i) (82 + 2 * i + 1)) 9 i (some (82 + 2 * i))
def m_AnH (M : fm_M) : Nat → fm_M
  | 0 => m_AnS M 4
  | i + 1 => fm_put3 (m_Si_init (fm_clr (m_AnH M i) (90 + 124 * i)) (90 + 124 * i) (90 + 124 * i + 1) (nI i)) 15 i (some (90 + 124 * i))
def m_An_init (M : fm_M) : fm_M := m_AnH M 4
theorem fm_layS : ∀ i, i < 4 → fm_lay (82 + 2 * i) = (1, 0) ∧ fm_lay (82 + 2 * i + 1) = (100, 48) := by decide
theorem fm_layH : ∀ i, i < 4 → fm_lay (90 + 124 * i) = (8, 0) ∧ ∀ v, v < 3 → ∀ k, k < 41 → fm_lay (90 + 124 * i + 1 + 41 * v + k) = fm_layM.getD k (99, 0) := by decide +kernel
theorem m_Me_init_eq {M : fm_M} {o n : Nat} (h : o < n) : fm_eqB o M (m_Me_init M o n) := by
  have h0 : fm_eqB o M (m_Me0 M o n) := by
    intro q hq
    simp [m_Me0, m_Sy_init, m_fill, fm_put1, fm_put2, fm_put3, fm_clr, va_up, show ¬ q = o by omega, show ¬ q = n by omega, show ¬ q = n + 1 by omega, show ¬ q = n + 2 by omega, show ¬ q = n + 3 by omega, show ¬ q = n + 4 by omega, show ¬ q = n + 5 by omega, show ¬ q = n + 6 by omega, show ¬ q = n + 7 by omega]
  have hs : ∀ i, fm_eqB o M (m_MeL M o n i) := by
    intro i
    induction i with
    | zero => exact h0
    | succ i ih =>
      exact fm_eqB.tr ih (fm_eqB.tr (fm_eqB.tr (fm_eqB.clr (by omega)) (m_Tr_init_eq (by omega)) (show o ≤ n + 8 + 4 * i by omega)) (fm_eqB.p3 (show o ≤ n + 4 by omega)) (Nat.le_refl _)) (Nat.le_refl _)
  exact hs 8
theorem m_Si_init_eq {M : fm_M} {o n : Nat} {h : Int32} (hn : o < n) : fm_eqB o M (m_Si_init M o n h) := by
  have e0 : fm_eqB o M M := fm_eqB.rf
  have e1 : fm_eqB o M (fm_put1 M o 1 (nI 1)) := fm_eqB.tr e0 (fm_eqB.p1 (Nat.le_refl o)) (Nat.le_refl o)
  have e2 : fm_eqB o M (fm_put1 (fm_put1 M o 1 (nI 1)) o 2 (nI 0)) := fm_eqB.tr e1 (fm_eqB.p1 (Nat.le_refl o)) (Nat.le_refl o)
  have e3 : fm_eqB o M (fm_clr (fm_put1 (fm_put1 M o 1 (nI 1)) o 2 (nI 0)) n) := fm_eqB.tr e2 (fm_eqB.clr (show o ≤ n by omega)) (Nat.le_refl o)
  have e4 : fm_eqB o M (m_Me_init (fm_clr (fm_put1 (fm_put1 M o 1 (nI 1)) o 2 (nI 0)) n) (n) (n + 1)) := fm_eqB.tr e3 (m_Me_init_eq (by omega)) (show o ≤ (n) by omega)
  have e5 : fm_eqB o M (fm_put3 (m_Me_init (fm_clr (fm_put1 (fm_put1 M o 1 (nI 1)) o 2 (nI 0)) n) (n) (n + 1)) o 3 (some n)) := fm_eqB.tr e4 (fm_eqB.p3 (Nat.le_refl o)) (Nat.le_refl o)
  have e6 : fm_eqB o M (fm_clr (fm_put3 (m_Me_init (fm_clr (fm_put1 (fm_put1 M o 1 (nI 1)) o 2 (nI 0)) n) (n) (n + 1)) o 3 (some n)) (n + 41)) := fm_eqB.tr e5 (fm_eqB.clr (show o ≤ (n + 41) by omega)) (Nat.le_refl o)
  have e7 : fm_eqB o M (m_Me_init (fm_clr (fm_put3 (m_Me_init (fm_clr (fm_put1 (fm_put1 M o 1 (nI 1)) o 2 (nI 0)) n) (n) (n + 1)) o 3 (some n)) (n + 41)) (n + 41) (n + 42)) := fm_eqB.tr e6 (m_Me_init_eq (by omega)) (show o ≤ (n + 41) by omega)
  have e8 : fm_eqB o M (fm_put3 (m_Me_init (fm_clr (fm_put3 (m_Me_init (fm_clr (fm_put1 (fm_put1 M o 1 (nI 1)) o 2 (nI 0)) n) (n) (n + 1)) o 3 (some n)) (n + 41)) (n + 41) (n + 42)) o 4 (some (n + 41))) := fm_eqB.tr e7 (fm_eqB.p3 (Nat.le_refl o)) (Nat.le_refl o)
  have e9 : fm_eqB o M (fm_clr (fm_put3 (m_Me_init (fm_clr (fm_put3 (m_Me_init (fm_clr (fm_put1 (fm_put1 M o 1 (nI 1)) o 2 (nI 0)) n) (n) (n + 1)) o 3 (some n)) (n + 41)) (n + 41) (n + 42)) o 4 (some (n + 41))) (n + 82)) := fm_eqB.tr e8 (fm_eqB.clr (show o ≤ (n + 82) by omega)) (Nat.le_refl o)
  have e10 : fm_eqB o M (m_Me_init (fm_clr (fm_put3 (m_Me_init (fm_clr (fm_put3 (m_Me_init (fm_clr (fm_put1 (fm_put1 M o 1 (nI 1)) o 2 (nI 0)) n) (n) (n + 1)) o 3 (some n)) (n + 41)) (n + 41) (n + 42)) o 4 (some (n + 41))) (n + 82)) (n + 82) (n + 83)) := fm_eqB.tr e9 (m_Me_init_eq (by omega)) (show o ≤ (n + 82) by omega)
  have e11 : fm_eqB o M (fm_put3 (m_Me_init (fm_clr (fm_put3 (m_Me_init (fm_clr (fm_put3 (m_Me_init (fm_clr (fm_put1 (fm_put1 M o 1 (nI 1)) o 2 (nI 0)) n) (n) (n + 1)) o 3 (some n)) (n + 41)) (n + 41) (n + 42)) o 4 (some (n + 41))) (n + 82)) (n + 82) (n + 83)) o 5 (some (n + 82))) := fm_eqB.tr e10 (fm_eqB.p3 (Nat.le_refl o)) (Nat.le_refl o)
  have e12 : fm_eqB o M (fm_put1 (fm_put3 (m_Me_init (fm_clr (fm_put3 (m_Me_init (fm_clr (fm_put3 (m_Me_init (fm_clr (fm_put1 (fm_put1 M o 1 (nI 1)) o 2 (nI 0)) n) (n) (n + 1)) o 3 (some n)) (n + 41)) (n + 41) (n + 42)) o 4 (some (n + 41))) (n + 82)) (n + 82) (n + 83)) o 5 (some (n + 82))) o 0 h) := fm_eqB.tr e11 (fm_eqB.p1 (Nat.le_refl o)) (Nat.le_refl o)
  exact e12
def fm_M0 : fm_M := fm_clr (fun _ _ => 0, fun _ _ => 0, fun _ _ => none) 8
theorem m_An0_p0 : (m_An0 fm_M0).2.2 8 0 = some 9 ∧ (m_An0 fm_M0).2.2 8 2 = some 15 := by decide +kernel
theorem m_AnS_e {M : fm_M} : ∀ i, fm_eqB 9 (m_An0 M) (m_AnS M i)
  | 0 => fm_eqB.rf
  | i + 1 => fm_eqB.tr (m_AnS_e i) (fm_eqB.tr (fm_eqB.tr (fm_eqB.clr (by omega)) (m_Sc_init_eq (by omega)) (show 9 ≤ 82 + 2 * i by omega)) (fm_eqB.p3 (Nat.le_refl 9)) (Nat.le_refl _)) (Nat.le_refl _)
theorem m_AnH_e {M : fm_M} : ∀ i, fm_eqB 9 (m_An0 M) (m_AnH M i)
  | 0 => m_AnS_e 4
  | i + 1 => fm_eqB.tr (m_AnH_e i) (fm_eqB.tr (fm_eqB.tr (fm_eqB.clr (by omega)) (m_Si_init_eq (by omega)) (show 9 ≤ 90 + 124 * i by omega)) (fm_eqB.p3 (show 9 ≤ 15 by omega)) (Nat.le_refl _)) (Nat.le_refl _)
theorem m_AnS_p (i : Nat) : (m_AnS fm_M0 i).2.2 8 0 = some 9 := by rw [(m_AnS_e i 8 (by omega)).2.2]; exact m_An0_p0.1
theorem m_AnH_p (i : Nat) : (m_AnH fm_M0 i).2.2 8 2 = some 15 := by rw [(m_AnH_e i 8 (by omega)).2.2]; exact m_An0_p0.2
set_option maxRecDepth 100000 in
set_option maxHeartbeats 4000000 in
theorem c_An_init {l : Launch} {b : Nat} {x : Nat → Nat} {D : va_G} {dA : Nat → ClassId} : Met l y_An_init (Cond.code y_An_init b_An_init 2 none :: fm_T0) ({ frames := 6, cells := 577, slots := 8970, locals := 150 }) (fm_Pc fm_lay fm_nf fm_fk fm_cl b x D dA (fm_tys dA) (fm_EX b x) true [.ref 8] 9 fm_M0) (fm_Qc fm_lay fm_nf fm_fk fm_cl b x D dA (fun r n' M' => r = none ∧ n' = 586 ∧ M' = m_An_init fm_M0)) 577 8970 (fm_A b) := by
  refine fm_enter (by decide) (Nat.le_of_ble_eq_true rfl) ?_
  intro p e s m args below meth c hc hr hnm hex htg
  have ht := htg rfl
  have h8 : 8 ≤ 8 := Nat.le_refl 8
  have hl : (fm_lay 8).1 = 0 := by decide
  have loop108 : ∀ k i, i + k = 4 → fm_G p l e (headSpec (Cond.code y_An_init b_An_init 2 none :: fm_T0) ({ frames := 6, cells := 577, slots := 8970, locals := 150 })).room s m args below meth c (MQ below (fm_Qc fm_lay fm_nf fm_fk fm_cl b x D dA (fun r n' M' => r = none ∧ n' = 586 ∧ M' = m_An_init fm_M0)) args s 577 8970 (fm_A b)) fm_lay fm_nf fm_fk fm_cl b x D dA 2 108 [(1, .int (nI i)), (0, .ref 8)] [] (90 + 124 * i) (m_AnH fm_M0 i) (81 + 124 * i, 3378 + 1398 * i) := by
    intro k
    induction k with
    | zero =>
      intro i hi
      have hi : i = 4 := by omega
      subst hi
      refine fm_iload_n hc d_An_init_108 rfl rfl ?_
      refine fm_iconst (v := nI 4) hc d_An_init_109 rfl ?_
      refine fm_icmp_ge (tgt := 133) hc d_An_init_110 rfl (fun h => ?_) (fun h => absurd (nI_le (Nat.le_refl _) (by omega)) h)
      exact fm_vret hc hr d_An_init_133 (Nat.le_of_ble_eq_true rfl) (Nat.le_of_ble_eq_true rfl) ⟨rfl, rfl, rfl⟩
    | succ k ih =>
      intro i hi
      have hiN : i < 4 := by omega
      obtain ⟨hT0, hTL⟩ := fm_layH i hiN
      refine fm_iload_n hc d_An_init_108 rfl rfl ?_
      refine fm_iconst (v := nI 4) hc d_An_init_109 rfl ?_
      refine fm_icmp_ge (tgt := 133) hc d_An_init_110 rfl (fun h => absurd h (nI_ge (by omega) (by omega))) (fun h => ?_)
      refine fm_aload_n hc d_An_init_113 rfl rfl ?_
      refine fm_getR (k := 2) (q := 15) hc K_An d_An_init_114 q_357 rfl h8 (by omega) hl (by decide) (by decide) rfl (m_AnH_p i) ?_
      refine fm_iload_n hc d_An_init_117 rfl rfl ?_
      refine fm_new hc K_Si d_An_init_118 q_35 q_286 q_10 (by omega) (congrArg Prod.fst hT0) (by decide) df_Si (by show s.heap.size + (81 + 124 * i) = _; omega) (by show 81 + 124 * i + 1 ≤ 577; omega) (by show 3378 + 1398 * i + 6 ≤ 8970; omega) ?_
      refine fm_dup hc d_An_init_121 rfl ?_
      refine fm_iload_n hc d_An_init_122 rfl rfl ?_
      refine fm_callI (av := [.int (nI i)]) (rest := [.ref (90 + 124 * i), .int (nI i), .ref 15]) (y := y_Si_init) (bytes := b_Si_init) hc fm_T0_good (fm_EX_st b x) hex q_289 q_10 q_287 q_288 rfl pd_Si_init (c_Si_init (l := l) (b := b) (x := x) (D := D) (dA := dA) (o := 90 + 124 * i) (n := 90 + 124 * i + 1) (by omega) (by omega) (congrArg Prod.fst hT0) hTL) ⟨rfl, rfl, Nat.le_of_ble_eq_true rfl, Nat.le_of_ble_eq_true rfl⟩ ⟨by show 81 + 124 * i + 1 + 123 ≤ 577; omega, by show 3378 + 1398 * i + 6 + 1392 ≤ 8970; omega⟩ (by show s.heap.size + (81 + 124 * i + 1) = _; omega) d_An_init_123 (Nat.le_of_ble_eq_true rfl) (fun r n2 M2 hp => ?_)
      obtain ⟨rfl, rfl, rfl⟩ := hp
      refine fm_st (st' := [.ref (90 + 124 * i), .int (nI i), .ref 15]) rfl ?_
      refine fm_aast (r := ("AgentNet$Site", F_Si, 6)) (len := 4) (ki := 121) (ci := 8) hc 5 d_An_init_126 (by omega) (by omega) (by decide) (by decide) rfl hiN (by decide) (by omega) (by omega) (congrArg Prod.fst hT0) (by decide) rfl ?_
      refine fm_iinc (v := nI (i + 1)) (lv' := [(1, .int (nI (i + 1))), (0, .ref 8)]) hc d_An_init_127 rfl (nI_1 i) (by decide) rfl ?_
      refine fm_goto (tgt := 108) hc d_An_init_130 rfl ?_
      refine fm_mem (n' := 90 + 124 * (i + 1)) (M' := m_AnH fm_M0 (i + 1)) (by omega) rfl ?_
      refine fm_cnt (z' := (81 + 124 * (i + 1), 3378 + 1398 * (i + 1))) (Prod.ext (by show 81 + 124 * i + 1 + 123 = _; omega) (by show 3378 + 1398 * i + 6 + 1392 = _; omega)) ?_
      exact ih (i + 1) (by omega)
  have loop82 : ∀ k i, i + k = 4 → fm_G p l e (headSpec (Cond.code y_An_init b_An_init 2 none :: fm_T0) ({ frames := 6, cells := 577, slots := 8970, locals := 150 })).room s m args below meth c (MQ below (fm_Qc fm_lay fm_nf fm_fk fm_cl b x D dA (fun r n' M' => r = none ∧ n' = 586 ∧ M' = m_An_init fm_M0)) args s 577 8970 (fm_A b)) fm_lay fm_nf fm_fk fm_cl b x D dA 2 82 [(1, .int (nI i)), (0, .ref 8)] [] (82 + 2 * i) (m_AnS fm_M0 i) (73 + 2 * i, 3178 + 50 * i) := by
    intro k
    induction k with
    | zero =>
      intro i hi
      have hi : i = 4 := by omega
      subst hi
      refine fm_iload_n hc d_An_init_82 rfl rfl ?_
      refine fm_iconst (v := nI 4) hc d_An_init_83 rfl ?_
      refine fm_icmp_ge (tgt := 106) hc d_An_init_84 rfl (fun h => ?_) (fun h => absurd (nI_le (Nat.le_refl _) (by omega)) h)
      refine fm_iconst (v := nI 0) hc d_An_init_106 rfl ?_
      refine fm_istore_n (lv' := [(1, .int (nI 0)), (0, .ref 8)]) hc d_An_init_107 rfl (by decide) rfl ?_
      exact fm_mem (n' := 90 + 124 * 0) (M' := m_AnH fm_M0 0) rfl rfl (fm_cnt (z' := (81 + 124 * 0, 3378 + 1398 * 0)) rfl (loop108 4 0 rfl))
    | succ k ih =>
      intro i hi
      have hiN : i < 4 := by omega
      obtain ⟨hT0, hT1⟩ := fm_layS i hiN
      refine fm_iload_n hc d_An_init_82 rfl rfl ?_
      refine fm_iconst (v := nI 4) hc d_An_init_83 rfl ?_
      refine fm_icmp_ge (tgt := 106) hc d_An_init_84 rfl (fun h => absurd h (nI_ge (by omega) (by omega))) (fun h => ?_)
      refine fm_aload_n hc d_An_init_87 rfl rfl ?_
      refine fm_getR (k := 0) (q := 9) hc K_An d_An_init_88 q_355 rfl h8 (by omega) hl (by decide) (by decide) rfl (m_AnS_p i) ?_
      refine fm_iload_n hc d_An_init_91 rfl rfl ?_
      refine fm_new hc K_Sc d_An_init_92 q_31 q_274 q_9 (by omega) (congrArg Prod.fst hT0) (by decide) df_Sc (by show s.heap.size + (73 + 2 * i) = _; omega) (by show 73 + 2 * i + 1 ≤ 577; omega) (by show 3178 + 50 * i + 2 ≤ 8970; omega) ?_
      refine fm_dup hc d_An_init_95 rfl ?_
      refine fm_callIN (av := []) (rest := [.ref (82 + 2 * i), .int (nI i), .ref 9]) (y := y_Sc_init) (bytes := b_Sc_init) hc fm_T0_good (fm_EX_st b x) hex q_277 q_9 (nx_7 hex) q_276 rfl pd_Sc_init (c_Sc_init (l := l) (b := b) (x := x) (D := D) (dA := dA) (o := 82 + 2 * i) (n := 82 + 2 * i + 1) (by omega) (by omega) (congrArg Prod.fst hT0) hT1) ⟨rfl, rfl, Nat.le_of_ble_eq_true rfl, Nat.le_of_ble_eq_true rfl⟩ ⟨by show 73 + 2 * i + 1 + 1 ≤ 577; omega, by show 3178 + 50 * i + 2 + 48 ≤ 8970; omega⟩ (by show s.heap.size + (73 + 2 * i + 1) = _; omega) d_An_init_96 (Nat.le_of_ble_eq_true rfl) (fun r n2 M2 hp => ?_)
      obtain ⟨rfl, rfl, rfl⟩ := hp
      refine fm_st (st' := [.ref (82 + 2 * i), .int (nI i), .ref 9]) rfl ?_
      refine fm_aast (r := ("AgentNet$Script", F_Sc, 2)) (len := 4) (ki := 120) (ci := 1) hc 4 d_An_init_99 (by omega) (by omega) (by decide) (by decide) rfl hiN (by decide) (by omega) (by omega) (congrArg Prod.fst hT0) (by decide) rfl ?_
      refine fm_iinc (v := nI (i + 1)) (lv' := [(1, .int (nI (i + 1))), (0, .ref 8)]) hc d_An_init_100 rfl (nI_1 i) (by decide) rfl ?_
      refine fm_goto (tgt := 82) hc d_An_init_103 rfl ?_
      refine fm_mem (n' := 82 + 2 * (i + 1)) (M' := m_AnS fm_M0 (i + 1)) (by omega) rfl ?_
      refine fm_cnt (z' := (73 + 2 * (i + 1), 3178 + 50 * (i + 1))) (Prod.ext (by show 73 + 2 * i + 1 + 1 = _; omega) (by show 3178 + 50 * i + 2 + 48 = _; omega)) ?_
      exact ih (i + 1) (by omega)
  refine fm_aload_n hc d_An_init_0 rfl rfl ?_
  refine fm_objInit hc q_28 q_29 q_30 d_An_init_1 (Nat.le_of_ble_eq_true rfl) (Nat.le_of_ble_eq_true rfl) ?_
  refine fm_aload_n hc d_An_init_4 rfl rfl ?_
  refine fm_iconst (v := nI 4) hc d_An_init_5 rfl ?_
  refine fm_newR (len := 4) (ki := 120) hc 4 d_An_init_6 q_31 (va_AO.use (ax_0 hex)) (by omega) (by decide) (by decide) rfl (by decide) (by omega) (Nat.le_of_ble_eq_true rfl) (Nat.le_of_ble_eq_true rfl) ?_
  refine fm_putRF (k := 0) (v := 9) hc K_An d_An_init_9 q_355 rfl h8 (by omega) hl (by decide) (by decide) rfl rfl hnm rfl rfl rfl ?_
  refine fm_nm (fun M1 hM1 => ?_)
  refine fm_aload_n hc d_An_init_12 rfl rfl ?_
  refine fm_iconst (v := nI 4) hc d_An_init_13 rfl ?_
  refine fm_bipush (v := nI 8) hc d_An_init_14 rfl ?_
  refine fm_multi (N := 4) (K := 8) hc 8 0 d_An_init_16 q_33 hex.2.2.1 q_80 (by omega) (by decide) (by decide) rfl rfl (by decide) (by decide) (by omega) (Nat.le_of_ble_eq_true rfl) (Nat.le_of_ble_eq_true rfl) ?_
  refine fm_mem (n' := 15) (M' := fm_mm (M1) 10 4) rfl rfl ?_
  refine fm_cnt (z' := (6, 40)) rfl ?_
  refine fm_putRF (k := 1) (v := 10) hc K_An d_An_init_20 q_356 rfl h8 (by omega) hl (by decide) (by decide) rfl rfl hnm rfl rfl rfl ?_
  refine fm_nm (fun M2 hM2 => ?_)
  refine fm_aload_n hc d_An_init_23 rfl rfl ?_
  refine fm_iconst (v := nI 4) hc d_An_init_24 rfl ?_
  refine fm_newR (len := 4) (ki := 121) hc 5 d_An_init_25 q_35 (va_AO.use (ax_1 hex)) (by omega) (by decide) (by decide) rfl (by decide) (by omega) (Nat.le_of_ble_eq_true rfl) (Nat.le_of_ble_eq_true rfl) ?_
  refine fm_putRF (k := 2) (v := 15) hc K_An d_An_init_28 q_357 rfl h8 (by omega) hl (by decide) (by decide) rfl rfl hnm rfl rfl rfl ?_
  refine fm_nm (fun M3 hM3 => ?_)
  refine fm_aload_n hc d_An_init_31 rfl rfl ?_
  refine fm_new hc K_Wi d_An_init_32 q_37 q_38 q_2 (by omega) (by decide) (by decide) df_Wi (by omega) (Nat.le_of_ble_eq_true rfl) (Nat.le_of_ble_eq_true rfl) ?_
  refine fm_dup hc d_An_init_35 rfl ?_
  refine fm_callI (av := []) (rest := [.ref 16, .ref 8]) (y := y_Wi_init) (bytes := b_Wi_init) hc fm_T0_good (fm_EX_st b x) hex q_41 q_2 q_39 q_40 rfl pd_Wi_init (c_Wi_init (l := l) (b := b) (x := x) (D := D) (dA := dA) (o := 16) (n := 17) (by decide) (by decide) (by decide) (by decide) (by decide)) ⟨rfl, rfl, Nat.le_of_ble_eq_true rfl, Nat.le_of_ble_eq_true rfl⟩ ⟨(Nat.le_of_ble_eq_true rfl), (Nat.le_of_ble_eq_true rfl)⟩ (by omega) d_An_init_36 (Nat.le_of_ble_eq_true rfl) (fun r n2 M2 hp => ?_)
  obtain ⟨rfl, rfl, rfl⟩ := hp
  refine fm_st (st' := [.ref 16, .ref 8]) rfl ?_
  refine fm_mem (n' := 60) (M' := m_Wi_init (fm_clr M3 16) 16 17) rfl rfl ?_
  refine fm_putRF (k := 3) (v := 16) hc K_An d_An_init_39 q_358 rfl h8 (by omega) hl (by decide) (by decide) rfl rfl hnm rfl rfl rfl ?_
  refine fm_nm (fun M4 hM4 => ?_)
  refine fm_aload_n hc d_An_init_42 rfl rfl ?_
  refine fm_new hc K_Pr d_An_init_43 q_94 q_95 q_4 (by omega) (by decide) (by decide) df_Pr (by omega) (Nat.le_of_ble_eq_true rfl) (Nat.le_of_ble_eq_true rfl) ?_
  refine fm_dup hc d_An_init_46 rfl ?_
  refine fm_callIN (av := []) (rest := [.ref 60, .ref 8]) (y := y_Pr_init) (bytes := b_Pr_init) hc fm_T0_good (fm_EX_st b x) hex q_98 q_4 (nx_1 hex) q_97 rfl pd_Pr_init (c_Pr_init (l := l) (b := b) (x := x) (D := D) (dA := dA) (o := 60) (n := 61) (by decide) (by decide) (by decide) (by decide)) ⟨rfl, rfl, Nat.le_of_ble_eq_true rfl, Nat.le_of_ble_eq_true rfl⟩ ⟨(Nat.le_of_ble_eq_true rfl), (Nat.le_of_ble_eq_true rfl)⟩ (by omega) d_An_init_47 (Nat.le_of_ble_eq_true rfl) (fun r n2 M2 hp => ?_)
  obtain ⟨rfl, rfl, rfl⟩ := hp
  refine fm_st (st' := [.ref 60, .ref 8]) rfl ?_
  refine fm_mem (n' := 66) (M' := m_Pr_init (fm_clr M4 60) 60 61) rfl rfl ?_
  refine fm_putRF (k := 4) (v := 60) hc K_An d_An_init_50 q_359 rfl h8 (by omega) hl (by decide) (by decide) rfl rfl hnm rfl rfl rfl ?_
  refine fm_nm (fun M5 hM5 => ?_)
  refine fm_aload_n hc d_An_init_53 rfl rfl ?_
  refine fm_new hc K_Sy d_An_init_54 q_144 q_145 q_6 (by omega) (by decide) (by decide) df_Sy (by omega) (Nat.le_of_ble_eq_true rfl) (Nat.le_of_ble_eq_true rfl) ?_
  refine fm_dup hc d_An_init_57 rfl ?_
  refine fm_callIN (av := []) (rest := [.ref 66, .ref 8]) (y := y_Sy_init) (bytes := b_Sy_init) hc fm_T0_good (fm_EX_st b x) hex q_148 q_6 (nx_3 hex) q_147 rfl pd_Sy_init (c_Sy_init (l := l) (b := b) (x := x) (D := D) (dA := dA) (o := 66) (n := 67) (by decide) (by decide) (by decide) (by decide) (by decide)) ⟨rfl, rfl, Nat.le_of_ble_eq_true rfl, Nat.le_of_ble_eq_true rfl⟩ ⟨(Nat.le_of_ble_eq_true rfl), (Nat.le_of_ble_eq_true rfl)⟩ (by omega) d_An_init_58 (Nat.le_of_ble_eq_true rfl) (fun r n2 M2 hp => ?_)
  obtain ⟨rfl, rfl, rfl⟩ := hp
  refine fm_st (st' := [.ref 66, .ref 8]) rfl ?_
  refine fm_mem (n' := 69) (M' := m_Sy_init (fm_clr M5 66) 66 67) rfl rfl ?_
  refine fm_putRF (k := 5) (v := 66) hc K_An d_An_init_61 q_360 rfl h8 (by omega) hl (by decide) (by decide) rfl rfl hnm rfl rfl rfl ?_
  refine fm_nm (fun M6 hM6 => ?_)
  refine fm_aload_n hc d_An_init_64 rfl rfl ?_
  refine fm_new hc K_Fr d_An_init_65 q_157 q_158 q_7 (by omega) (by decide) (by decide) df_Fr (by omega) (Nat.le_of_ble_eq_true rfl) (Nat.le_of_ble_eq_true rfl) ?_
  refine fm_dup hc d_An_init_68 rfl ?_
  refine fm_callIN (av := []) (rest := [.ref 69, .ref 8]) (y := y_Fr_init) (bytes := b_Fr_init) hc fm_T0_good (fm_EX_st b x) hex q_161 q_7 (nx_4 hex) q_160 rfl pd_Fr_init (c_Fr_init (l := l) (b := b) (x := x) (D := D) (dA := dA) (o := 69) (n := 70) (by decide) (by decide) (by decide) (by decide)) ⟨rfl, rfl, Nat.le_of_ble_eq_true rfl, Nat.le_of_ble_eq_true rfl⟩ ⟨(Nat.le_of_ble_eq_true rfl), (Nat.le_of_ble_eq_true rfl)⟩ (by omega) d_An_init_69 (Nat.le_of_ble_eq_true rfl) (fun r n2 M2 hp => ?_)
  obtain ⟨rfl, rfl, rfl⟩ := hp
  refine fm_st (st' := [.ref 69, .ref 8]) rfl ?_
  refine fm_mem (n' := 82) (M' := m_Fr_init (fm_clr M6 69) 69 70) rfl rfl ?_
  refine fm_putRF (k := 6) (v := 69) hc K_An d_An_init_72 q_361 rfl h8 (by omega) hl (by decide) (by decide) rfl rfl hnm rfl rfl rfl ?_
  refine fm_nm (fun M7 hM7 => ?_)
  refine fm_aload_n hc d_An_init_75 rfl rfl ?_
  refine fm_iconst (v := nI 0) hc d_An_init_76 rfl ?_
  refine fm_putI (k := 7) (v := nI 0) hc K_An d_An_init_77 q_362 rfl h8 (by omega) hl (by decide) (by decide) rfl rfl rfl rfl ?_
  refine fm_nm (fun M8 hM8 => ?_)
  refine fm_iconst (v := nI 0) hc d_An_init_80 rfl ?_
  refine fm_istore_n (lv' := [(1, .int (nI 0)), (0, .ref 8)]) hc d_An_init_81 rfl (by decide) rfl ?_
  exact fm_mem (n' := 82 + 2 * 0) (M' := m_AnS fm_M0 0) rfl (by subst hM8; subst hM7; subst hM6; subst hM5; subst hM4; subst hM3; subst hM2; subst hM1; rfl) (fm_cnt (z' := (73 + 2 * 0, 3178 + 50 * 0)) rfl (loop82 4 0 rfl))
