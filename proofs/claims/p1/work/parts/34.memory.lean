/-! CONSTRUCTORS, the second half: frames of the first ones; Memory -/
def fm_eqB (lo : Nat) (M M' : fm_M) : Prop := ∀ q, q < lo → M'.1 q = M.1 q ∧ M'.2.1 q = M.2.1 q ∧ M'.2.2 q = M.2.2 q
theorem fm_eqB.rf {lo : Nat} {M : fm_M} : fm_eqB lo M M := fun _ _ => ⟨rfl, rfl, rfl⟩
theorem fm_eqB.tr {lo lo' : Nat} {M M' M2 : fm_M} (h : fm_eqB lo M M') (h2 : fm_eqB lo' M' M2) (hl : lo ≤ lo') : fm_eqB lo M M2 := fun q hq => ⟨(h2 q (by omega)).1.trans (h q hq).1, (h2 q (by omega)).2.1.trans (h q hq).2.1, (h2 q (by omega)).2.2.trans (h q hq).2.2⟩
theorem fm_eqB.clr {lo o : Nat} {M : fm_M} (h : lo ≤ o) : fm_eqB lo M (fm_clr M o) := fun q hq => by
  have hne : ¬ q = o := by omega
  exact ⟨if_neg hne, if_neg hne, if_neg hne⟩
theorem fm_eqB.p3 {lo o k : Nat} {v : Option Nat} {M : fm_M} (h : lo ≤ o) : fm_eqB lo M (fm_put3 M o k v) := fun q hq => by
  have hne : ¬ q = o := by omega
  exact ⟨rfl, rfl, if_neg hne⟩
theorem fm_eqB.p1 {lo o k : Nat} {v : Int32} {M : fm_M} (h : lo ≤ o) : fm_eqB lo M (fm_put1 M o k v) := fun q hq => by
  have hne : ¬ q = o := by omega
  exact ⟨if_neg hne, rfl, rfl⟩
theorem fm_eqB.p2 {lo o k : Nat} {v : Int64} {M : fm_M} (h : lo ≤ o) : fm_eqB lo M (fm_put2 M o k v) := fun q hq => by
  have hne : ¬ q = o := by omega
  exact ⟨rfl, if_neg hne, rfl⟩
theorem fm_eqB.fl {lo o len : Nat} {v : Int32} {M : fm_M} (h : lo ≤ o) : fm_eqB lo M (m_fill M o len v) := fun q hq => by
  have hne : ¬ q = o := by omega
  exact ⟨if_neg hne, rfl, rfl⟩
theorem m_Tr_init_eq {M : fm_M} {o n : Nat} (h : o < n) : fm_eqB o M (m_Tr_init M o n) := fun q hq => by
  simp [m_Tr_init, fm_put1, fm_put2, fm_put3, fm_clr, va_up, show ¬ q = o by omega, show ¬ q = n by omega, show ¬ q = n + 1 by omega, show ¬ q = n + 2 by omega]
theorem m_Sc_init_eq {M : fm_M} {o n : Nat} (h : o < n) : fm_eqB o M (m_Sc_init M o n) := fun q hq => by
  simp [m_Sc_init, fm_put1, fm_put2, fm_put3, fm_clr, va_up, show ¬ q = o by omega, show ¬ q = n by omega]
theorem m_Sy_init_eq {M : fm_M} {o n : Nat} (h : o < n) : fm_eqB o M (m_Sy_init M o n) := fun q hq => by
  simp [m_Sy_init, fm_put1, fm_put2, fm_put3, fm_clr, va_up, show ¬ q = o by omega, show ¬ q = n by omega, show ¬ q = n + 1 by omega]
theorem m_Nu_init_eq {M : fm_M} {o n : Nat} (h : o < n) : fm_eqB o M (m_Nu_init M o n) := fun q hq => by
  simp [m_Nu_init, fm_put1, fm_put2, fm_put3, fm_clr, va_up, show ¬ q = o by omega, show ¬ q = n by omega, show ¬ q = n + 1 by omega, show ¬ q = n + 2 by omega, show ¬ q = n + 3 by omega]
theorem m_Ms_init_eq {M : fm_M} {o n : Nat} (h : o < n) : fm_eqB o M (m_Ms_init M o n) := fun q hq => by
  simp [m_Ms_init, fm_put1, fm_put2, fm_put3, fm_clr, va_up, show ¬ q = o by omega, show ¬ q = n by omega]
theorem fm_layM_t : ∀ i, i < 8 → fm_layM.getD (9 + 4 * i) (99, 0) = (5, 0) ∧ fm_layM.getD (10 + 4 * i) (99, 0) = (110, 6) ∧ fm_layM.getD (11 + 4 * i) (99, 0) = (110, 8) ∧ fm_layM.getD (12 + 4 * i) (99, 0) = (110, 8) := by decide
def m_Me0 (M : fm_M) (o n : Nat) : fm_M := (m_fill ((m_fill ((m_fill ((fm_put3 (m_Sy_init (fm_clr (fm_put3 (fm_clr (fm_put3 (fm_clr (fm_put3 (fm_clr (fm_put3 (fm_clr (fm_put3 (fm_clr M n) o 0 (some n)) (n + 1)) o 1 (some (n + 1))) (n + 2)) o 2 (some (n + 2))) (n + 3)) o 3 (some (n + 3))) (n + 4)) o 4 (some (n + 4))) (n + 5)) (n + 5) (n + 6)) o 5 (some (n + 5)))) (n + 1) 8 (-1))) (n + 2) 8 (-1))) (n + 3) 8 (-1))
def m_MeL (M : fm_M) (o n : Nat) : Nat → fm_M
  | 0 => m_Me0 M o n
  | i + 1 => fm_put3 (m_Tr_init (fm_clr (m_MeL M o n i) (n + 8 + 4 * i)) (n + 8 + 4 * i) (n + 9 + 4 * i)) (n + 4) i (some (n + 8 + 4 * i))
def m_Me_init (M : fm_M) (o n : Nat) : fm_M := m_MeL M o n 8
theorem m_Me0_p {M : fm_M} {o n : Nat} (h : o < n) : (m_Me0 M o n).2.2 o 4 = some (n + 4) := by
  simp [m_Me0, m_Sy_init, m_fill, fm_put1, fm_put2, fm_put3, fm_clr, va_up, show ¬ o = n by omega, show ¬ o = n + 1 by omega, show ¬ o = n + 2 by omega, show ¬ o = n + 3 by omega, show ¬ o = n + 4 by omega, show ¬ o = n + 5 by omega, show ¬ o = n + 6 by omega, show ¬ o = n + 7 by omega]
theorem m_MeL_p {M : fm_M} {o n : Nat} (h : o < n) : ∀ i, (m_MeL M o n i).2.2 o 4 = some (n + 4)
  | 0 => m_Me0_p h
  | i + 1 => by
    have e1 : fm_eqB (o + 1) (m_MeL M o n i) (m_MeL M o n (i + 1)) :=
      fm_eqB.tr (fm_eqB.tr (fm_eqB.clr (by omega)) (m_Tr_init_eq (by omega)) (show o + 1 ≤ n + 8 + 4 * i by omega)) (fm_eqB.p3 (show o + 1 ≤ n + 4 by omega)) (Nat.le_refl _)
    rw [(e1 o (by omega)).2.2]
    exact m_MeL_p h i
set_option maxRecDepth 100000 in
set_option maxHeartbeats 4000000 in
theorem c_Me_init {l : Launch} {b : Nat} {x : Nat → Nat} {D : va_G} {dA : Nat → ClassId} {o n : Nat} {M : fm_M} (h8 : 8 ≤ o) (hn : o < n) (hl : (fm_lay o).1 = 6) (hL : ∀ k, k < 40 → fm_lay (n + k) = fm_layM.getD (k + 1) (99, 0)) : Met l y_Me_init (Cond.code y_Me_init b_Me_init 2 none :: fm_T0) ({ frames := 3, cells := 40, slots := 458, locals := 60 }) (fm_Pc fm_lay fm_nf fm_fk fm_cl b x D dA (fm_tys dA) (fm_EX b x) true [.ref o] n M) (fm_Qc fm_lay fm_nf fm_fk fm_cl b x D dA (fun r n' M' => r = none ∧ n' = n + 40 ∧ M' = m_Me_init M o n)) 40 458 (fm_A b) := by
  refine fm_enter (by decide) (Nat.le_of_ble_eq_true rfl) ?_
  intro p e s m args below meth c hc hr hnm hex htg
  have ht := htg rfl
  have loop : ∀ k i, i + k = 8 → fm_G p l e (headSpec (Cond.code y_Me_init b_Me_init 2 none :: fm_T0) ({ frames := 3, cells := 40, slots := 458, locals := 60 })).room s m args below meth c (MQ below (fm_Qc fm_lay fm_nf fm_fk fm_cl b x D dA (fun r n' M' => r = none ∧ n' = n + 40 ∧ M' = m_Me_init M o n)) args s 40 458 (fm_A b)) fm_lay fm_nf fm_fk fm_cl b x D dA 2 82 [(1, .int (nI i)), (0, .ref o)] [] (n + 8 + 4 * i) (m_MeL M o n i) (8 + 4 * i, 178 + 35 * i) := by
    intro k
    induction k with
    | zero =>
      intro i hi
      have hi : i = 8 := by omega
      subst hi
      refine fm_iload_n hc d_Me_init_82 rfl rfl ?_
      refine fm_bipush (v := nI 8) hc d_Me_init_83 rfl ?_
      refine fm_icmp_ge (tgt := 107) hc d_Me_init_85 rfl (fun h => ?_) (fun h => absurd (nI_le (Nat.le_refl _) (by omega)) h)
      exact fm_vret hc hr d_Me_init_107 (Nat.le_of_ble_eq_true rfl) (Nat.le_of_ble_eq_true rfl) ⟨rfl, rfl, rfl⟩
    | succ k ih =>
      intro i hi
      have hi8 : i < 8 := by omega
      obtain ⟨t0, t1, t2, t3⟩ := fm_layM_t i hi8
      have hT0 : fm_lay (n + 8 + 4 * i) = (5, 0) := by
        have := hL (8 + 4 * i) (by omega)
        rw [show 8 + 4 * i + 1 = 9 + 4 * i by omega, t0] at this
        rw [← this, show n + 8 + 4 * i = n + (8 + 4 * i) by omega]
      have hT1 : fm_lay (n + 9 + 4 * i) = (110, 6) := by
        have := hL (9 + 4 * i) (by omega)
        rw [show 9 + 4 * i + 1 = 10 + 4 * i by omega, t1] at this
        rw [← this, show n + 9 + 4 * i = n + (9 + 4 * i) by omega]
      have hT2 : fm_lay (n + 9 + 4 * i + 1) = (110, 8) := by
        have := hL (10 + 4 * i) (by omega)
        rw [show 10 + 4 * i + 1 = 11 + 4 * i by omega, t2] at this
        rw [← this, show n + 9 + 4 * i + 1 = n + (10 + 4 * i) by omega]
      have hT3 : fm_lay (n + 9 + 4 * i + 2) = (110, 8) := by
        have := hL (11 + 4 * i) (by omega)
        rw [show 11 + 4 * i + 1 = 12 + 4 * i by omega, t3] at this
        rw [← this, show n + 9 + 4 * i + 2 = n + (11 + 4 * i) by omega]
      refine fm_iload_n hc d_Me_init_82 rfl rfl ?_
      refine fm_bipush (v := nI 8) hc d_Me_init_83 rfl ?_
      refine fm_icmp_ge (tgt := 107) hc d_Me_init_85 rfl (fun h => absurd h (nI_ge (by omega) (by omega))) (fun h => ?_)
      refine fm_aload_n hc d_Me_init_88 rfl rfl ?_
      refine fm_getR (k := 4) (q := n + 4) hc K_Me d_Me_init_89 q_314 rfl h8 (by omega) hl (by decide) (by decide) rfl (m_MeL_p hn i) ?_
      refine fm_iload_n hc d_Me_init_92 rfl rfl ?_
      refine fm_new hc K_Tr d_Me_init_93 q_297 q_166 q_8 (by omega) (congrArg Prod.fst hT0) (by decide) df_Tr (by show s.heap.size + (8 + 4 * i) = _; omega) (by show 8 + 4 * i + 1 ≤ 40; omega) (by show 178 + 35 * i + 13 ≤ 458; omega) ?_
      refine fm_dup hc d_Me_init_96 rfl ?_
      refine fm_callIN (av := []) (rest := [.ref (n + 8 + 4 * i), .int (nI i), .ref (n + 4)]) (y := y_Tr_init) (bytes := b_Tr_init) hc fm_T0_good (fm_EX_st b x) hex q_169 q_8 (nx_9 hex) q_168 rfl pd_Tr_init (c_Tr_init (l := l) (b := b) (x := x) (D := D) (dA := dA) (o := n + 8 + 4 * i) (n := n + 8 + 4 * i + 1) (by omega) (by omega) (congrArg Prod.fst hT0) (by rw [show n + 8 + 4 * i + 1 = n + 9 + 4 * i by omega]; exact hT1) (by rw [show n + 8 + 4 * i + 1 + 1 = n + 9 + 4 * i + 1 by omega]; exact hT2) (by rw [show n + 8 + 4 * i + 1 + 2 = n + 9 + 4 * i + 2 by omega]; exact hT3)) ⟨rfl, rfl, Nat.le_of_ble_eq_true rfl, Nat.le_of_ble_eq_true rfl⟩ ⟨by show 8 + 4 * i + 1 + 3 ≤ 40; omega, by show 178 + 35 * i + 13 + 22 ≤ 458; omega⟩ (by show s.heap.size + (8 + 4 * i + 1) = _; omega) d_Me_init_97 (Nat.le_of_ble_eq_true rfl) (fun r n2 M2 hp => ?_)
      obtain ⟨rfl, rfl, rfl⟩ := hp
      refine fm_st (st' := [.ref (n + 8 + 4 * i), .int (nI i), .ref (n + 4)]) rfl ?_
      refine fm_aast (r := ("AgentNet$Traveller", F_Tr, 13)) (len := 8) (ki := 123) (ci := 5) hc 7 d_Me_init_100 (by omega) (by omega) (hL 4 (by decide)) (by decide) rfl hi8 (by decide) (by omega) (by omega) (congrArg Prod.fst hT0) (by decide) rfl ?_
      refine fm_iinc (v := nI (i + 1)) (lv' := [(1, .int (nI (i + 1))), (0, .ref o)]) hc d_Me_init_101 rfl (nI_1 i) (by decide) rfl ?_
      refine fm_goto (tgt := 82) hc d_Me_init_104 rfl ?_
      refine fm_mem (n' := n + 8 + 4 * (i + 1)) (M' := m_MeL M o n (i + 1)) (by omega) (by rw [m_MeL, show n + 8 + 4 * i + 1 = n + 9 + 4 * i by omega]) ?_
      refine fm_cnt (z' := (8 + 4 * (i + 1), 178 + 35 * (i + 1))) (Prod.ext (by show 8 + 4 * i + 1 + 3 = _; omega) (by show 178 + 35 * i + 13 + 22 = _; omega)) ?_
      exact ih (i + 1) (by omega)
  refine fm_aload_n hc d_Me_init_0 rfl rfl ?_
  refine fm_objInit hc q_296 q_29 q_30 d_Me_init_1 (Nat.le_of_ble_eq_true rfl) (Nat.le_of_ble_eq_true rfl) ?_
  refine fm_aload_n hc d_Me_init_4 rfl rfl ?_
  refine fm_bipush (v := nI 8) hc d_Me_init_5 rfl ?_
  refine fm_newI (len := 8) hc 0 d_Me_init_7 q_80 (by omega) (hL 0 (by decide)) rfl (by decide) (by omega) (Nat.le_of_ble_eq_true rfl) (Nat.le_of_ble_eq_true rfl) ?_
  refine fm_putRF (k := 0) (v := n) hc K_Me d_Me_init_9 q_305 rfl h8 (by omega) hl (by decide) (by decide) rfl rfl hnm rfl rfl rfl ?_
  refine fm_nm (fun M1 hM1 => ?_)
  refine fm_aload_n hc d_Me_init_12 rfl rfl ?_
  refine fm_bipush (v := nI 8) hc d_Me_init_13 rfl ?_
  refine fm_newI (len := 8) hc 0 d_Me_init_15 q_80 (by omega) (hL 1 (by decide)) rfl (by decide) (by omega) (Nat.le_of_ble_eq_true rfl) (Nat.le_of_ble_eq_true rfl) ?_
  refine fm_putRF (k := 1) (v := n + 1) hc K_Me d_Me_init_17 q_308 rfl h8 (by omega) hl (by decide) (by decide) rfl rfl hnm rfl rfl rfl ?_
  refine fm_nm (fun M2 hM2 => ?_)
  refine fm_aload_n hc d_Me_init_20 rfl rfl ?_
  refine fm_bipush (v := nI 8) hc d_Me_init_21 rfl ?_
  refine fm_newI (len := 8) hc 0 d_Me_init_23 q_80 (by omega) (hL 2 (by decide)) rfl (by decide) (by omega) (Nat.le_of_ble_eq_true rfl) (Nat.le_of_ble_eq_true rfl) ?_
  refine fm_putRF (k := 2) (v := n + 2) hc K_Me d_Me_init_25 q_310 rfl h8 (by omega) hl (by decide) (by decide) rfl rfl hnm rfl rfl rfl ?_
  refine fm_nm (fun M3 hM3 => ?_)
  refine fm_aload_n hc d_Me_init_28 rfl rfl ?_
  refine fm_bipush (v := nI 8) hc d_Me_init_29 rfl ?_
  refine fm_newI (len := 8) hc 0 d_Me_init_31 q_80 (by omega) (hL 3 (by decide)) rfl (by decide) (by omega) (Nat.le_of_ble_eq_true rfl) (Nat.le_of_ble_eq_true rfl) ?_
  refine fm_putRF (k := 3) (v := n + 3) hc K_Me d_Me_init_33 q_312 rfl h8 (by omega) hl (by decide) (by decide) rfl rfl hnm rfl rfl rfl ?_
  refine fm_nm (fun M4 hM4 => ?_)
  refine fm_aload_n hc d_Me_init_36 rfl rfl ?_
  refine fm_bipush (v := nI 8) hc d_Me_init_37 rfl ?_
  refine fm_newR (len := 8) (ki := 123) hc 7 d_Me_init_39 q_297 (va_AO.use (ax_3 hex)) (by omega) (hL 4 (by decide)) (by decide) rfl (by decide) (by omega) (Nat.le_of_ble_eq_true rfl) (Nat.le_of_ble_eq_true rfl) ?_
  refine fm_putRF (k := 4) (v := n + 4) hc K_Me d_Me_init_42 q_314 rfl h8 (by omega) hl (by decide) (by decide) rfl rfl hnm rfl rfl rfl ?_
  refine fm_nm (fun M5 hM5 => ?_)
  refine fm_aload_n hc d_Me_init_45 rfl rfl ?_
  refine fm_new hc K_Sy d_Me_init_46 q_299 q_145 q_6 (by omega) (congrArg Prod.fst (hL 5 (by decide))) (by decide) df_Sy (by omega) (Nat.le_of_ble_eq_true rfl) (Nat.le_of_ble_eq_true rfl) ?_
  refine fm_dup hc d_Me_init_49 rfl ?_
  refine fm_callIN (av := []) (rest := [.ref (n + 5), .ref o]) (y := y_Sy_init) (bytes := b_Sy_init) hc fm_T0_good (fm_EX_st b x) hex q_148 q_6 (nx_8 hex) q_147 rfl pd_Sy_init (c_Sy_init (l := l) (b := b) (x := x) (D := D) (dA := dA) (o := n + 5) (n := n + 6) (by omega) (by omega) (congrArg Prod.fst (hL 5 (by decide))) (hL 6 (by decide)) (hL 7 (by decide))) ⟨rfl, rfl, Nat.le_of_ble_eq_true rfl, Nat.le_of_ble_eq_true rfl⟩ ⟨(Nat.le_of_ble_eq_true rfl), (Nat.le_of_ble_eq_true rfl)⟩ (by omega) d_Me_init_50 (Nat.le_of_ble_eq_true rfl) (fun r n2 M2 hp => ?_)
  obtain ⟨rfl, rfl, rfl⟩ := hp
  refine fm_st (st' := [.ref (n + 5), .ref o]) rfl ?_
  refine fm_mem (n' := n + 8) (M' := m_Sy_init (fm_clr M5 (n + 5)) (n + 5) (n + 6)) rfl rfl ?_
  refine fm_putRF (k := 5) (v := n + 5) hc K_Me d_Me_init_53 q_317 rfl h8 (by omega) hl (by decide) (by decide) rfl rfl hnm rfl rfl rfl ?_
  refine fm_nm (fun M6 hM6 => ?_)
  refine fm_aload_n hc d_Me_init_56 rfl rfl ?_
  refine fm_getR (k := 1) (q := n + 1) hc K_Me d_Me_init_57 q_308 rfl h8 (by omega) hl (by decide) (by decide) rfl (by simp [m_Tr_init, m_Sc_init, m_Sy_init, m_Nu_init, m_Ms_init, m_fill, fm_put1, fm_put2, fm_put3, fm_clr, va_up, hM6, hM5, hM4, hM3, hM2, hM1, show ¬ o = n by omega, show ¬ o = n + 1 by omega, show ¬ o = n + 2 by omega, show ¬ o = n + 3 by omega, show ¬ o = n + 4 by omega, show ¬ o = n + 5 by omega, show ¬ o = n + 6 by omega, show ¬ o = n + 7 by omega]) ?_
  refine fm_iconst (v := (-1)) hc d_Me_init_60 rfl ?_
  refine fm_callS (av := [.ref (n + 1), .int ((-1))]) (rest := []) (y := y_Ja_fill) (bytes := b_Ja_fill) hc fm_T0_good (fm_EX_st b x) hex q_303 q_12 q_301 q_302 pd_Ja_fill (c_Ja_fill (l := l) (b := b) (x := x) (D := D) (dA := dA) (o := n + 1) (len := 8) (by omega) (by omega) (hL 1 (by decide)) (by decide)) ⟨rfl, rfl, Nat.le_of_ble_eq_true rfl, Nat.le_of_ble_eq_true rfl⟩ ⟨(Nat.le_of_ble_eq_true rfl), (Nat.le_of_ble_eq_true rfl)⟩ d_Me_init_61 (Nat.le_of_ble_eq_true rfl) (fun r n2 M2 hp => ?_)
  obtain ⟨rfl, rfl, rfl⟩ := hp
  refine fm_st (st' := []) rfl ?_
  refine fm_nm (fun M7 hM7 => ?_)
  refine fm_aload_n hc d_Me_init_64 rfl rfl ?_
  refine fm_getR (k := 2) (q := n + 2) hc K_Me d_Me_init_65 q_310 rfl h8 (by omega) hl (by decide) (by decide) rfl (by simp [m_Tr_init, m_Sc_init, m_Sy_init, m_Nu_init, m_Ms_init, m_fill, fm_put1, fm_put2, fm_put3, fm_clr, va_up, hM7, hM6, hM5, hM4, hM3, hM2, hM1, show ¬ o = n by omega, show ¬ o = n + 1 by omega, show ¬ o = n + 2 by omega, show ¬ o = n + 3 by omega, show ¬ o = n + 4 by omega, show ¬ o = n + 5 by omega, show ¬ o = n + 6 by omega, show ¬ o = n + 7 by omega]) ?_
  refine fm_iconst (v := (-1)) hc d_Me_init_68 rfl ?_
  refine fm_callS (av := [.ref (n + 2), .int ((-1))]) (rest := []) (y := y_Ja_fill) (bytes := b_Ja_fill) hc fm_T0_good (fm_EX_st b x) hex q_303 q_12 q_301 q_302 pd_Ja_fill (c_Ja_fill (l := l) (b := b) (x := x) (D := D) (dA := dA) (o := n + 2) (len := 8) (by omega) (by omega) (hL 2 (by decide)) (by decide)) ⟨rfl, rfl, Nat.le_of_ble_eq_true rfl, Nat.le_of_ble_eq_true rfl⟩ ⟨(Nat.le_of_ble_eq_true rfl), (Nat.le_of_ble_eq_true rfl)⟩ d_Me_init_69 (Nat.le_of_ble_eq_true rfl) (fun r n2 M2 hp => ?_)
  obtain ⟨rfl, rfl, rfl⟩ := hp
  refine fm_st (st' := []) rfl ?_
  refine fm_nm (fun M8 hM8 => ?_)
  refine fm_aload_n hc d_Me_init_72 rfl rfl ?_
  refine fm_getR (k := 3) (q := n + 3) hc K_Me d_Me_init_73 q_312 rfl h8 (by omega) hl (by decide) (by decide) rfl (by simp [m_Tr_init, m_Sc_init, m_Sy_init, m_Nu_init, m_Ms_init, m_fill, fm_put1, fm_put2, fm_put3, fm_clr, va_up, hM8, hM7, hM6, hM5, hM4, hM3, hM2, hM1, show ¬ o = n by omega, show ¬ o = n + 1 by omega, show ¬ o = n + 2 by omega, show ¬ o = n + 3 by omega, show ¬ o = n + 4 by omega, show ¬ o = n + 5 by omega, show ¬ o = n + 6 by omega, show ¬ o = n + 7 by omega]) ?_
  refine fm_iconst (v := (-1)) hc d_Me_init_76 rfl ?_
  refine fm_callS (av := [.ref (n + 3), .int ((-1))]) (rest := []) (y := y_Ja_fill) (bytes := b_Ja_fill) hc fm_T0_good (fm_EX_st b x) hex q_303 q_12 q_301 q_302 pd_Ja_fill (c_Ja_fill (l := l) (b := b) (x := x) (D := D) (dA := dA) (o := n + 3) (len := 8) (by omega) (by omega) (hL 3 (by decide)) (by decide)) ⟨rfl, rfl, Nat.le_of_ble_eq_true rfl, Nat.le_of_ble_eq_true rfl⟩ ⟨(Nat.le_of_ble_eq_true rfl), (Nat.le_of_ble_eq_true rfl)⟩ d_Me_init_77 (Nat.le_of_ble_eq_true rfl) (fun r n2 M2 hp => ?_)
  obtain ⟨rfl, rfl, rfl⟩ := hp
  refine fm_st (st' := []) rfl ?_
  refine fm_nm (fun M9 hM9 => ?_)
  refine fm_iconst (v := nI 0) hc d_Me_init_80 rfl ?_
  refine fm_istore_n (lv' := [(1, .int (nI 0)), (0, .ref o)]) hc d_Me_init_81 rfl (by decide) rfl ?_
  exact fm_mem (n' := n + 8 + 4 * 0) (M' := m_MeL M o n 0) rfl (by subst hM9; subst hM8; subst hM7; subst hM6; subst hM5; subst hM4; subst hM3; subst hM2; subst hM1; rfl) (loop 8 0 rfl)
