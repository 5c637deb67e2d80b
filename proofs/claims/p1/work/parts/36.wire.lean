def m_Wi0 (M : fm_M) (o n : Nat) : fm_M := (fm_put3 (m_Ms_init (fm_clr (fm_put1 (fm_put3 (fm_clr M n) o 0 (some n)) o 1 (nI 0)) (n + 1)) (n + 1) (n + 2)) o 2 (some (n + 1)))
def m_WiL (M : fm_M) (o n : Nat) : Nat → fm_M
  | 0 => m_Wi0 M o n
  | i + 1 => fm_put3 (m_Ms_init (fm_clr (m_WiL M o n i) (n + 3 + 2 * i)) (n + 3 + 2 * i) (n + 3 + 2 * i + 1)) n i (some (n + 3 + 2 * i))
def m_Wi_init (M : fm_M) (o n : Nat) : fm_M := m_WiL M o n 20
theorem m_WiL_p {M : fm_M} {o n : Nat} (h : o < n) : ∀ i, (m_WiL M o n i).2.2 o 0 = some n
  | 0 => by
    show (m_Wi0 M o n).2.2 o 0 = some n
    simp [m_Wi0, m_Ms_init, fm_put1, fm_put2, fm_put3, fm_clr, va_up, show ¬ o = n by omega, show ¬ o = n + 1 by omega, show ¬ o = n + 2 by omega]
  | i + 1 => by
    have e1 : fm_eqB (o + 1) (m_WiL M o n i) (m_WiL M o n (i + 1)) :=
      fm_eqB.tr (fm_eqB.tr (fm_eqB.clr (by omega)) (m_Ms_init_eq (by omega)) (show o + 1 ≤ n + 3 + 2 * i by omega)) (fm_eqB.p3 (show o + 1 ≤ n by omega)) (Nat.le_refl _)
    rw [(e1 o (by omega)).2.2]
    exact m_WiL_p h i
set_option maxRecDepth 100000 in
set_option maxHeartbeats 4000000 in
theorem c_Wi_init {l : Launch} {b : Nat} {x : Nat → Nat} {D : va_G} {dA : Nat → ClassId} {o n : Nat} {M : fm_M} (h8 : 8 ≤ o) (hn : o < n) (hl : (fm_lay o).1 = 4) (hL : ∀ k, k < 3 → fm_lay (n + k) = ([(122, 20), (9, 0), (102, 121)] : List (Nat × Nat)).getD k (99, 0)) (hM : ∀ i, i < 20 → fm_lay (n + 3 + 2 * i) = (9, 0) ∧ fm_lay (n + 3 + 2 * i + 1) = (102, 121)) : Met l y_Wi_init (Cond.code y_Wi_init b_Wi_init 2 none :: fm_T0) ({ frames := 2, cells := 43, slots := 2729, locals := 40 }) (fm_Pc fm_lay fm_nf fm_fk fm_cl b x D dA (fm_tys dA) (fm_EX b x) true [.ref o] n M) (fm_Qc fm_lay fm_nf fm_fk fm_cl b x D dA (fun r n' M' => r = none ∧ n' = n + 43 ∧ M' = m_Wi_init M o n)) 43 2729 (fm_A b) := by
  refine fm_enter (by decide) (Nat.le_of_ble_eq_true rfl) ?_
  intro p e s m args below meth c hc hr hnm hex htg
  have ht := htg rfl
  have loop31 : ∀ k i, i + k = 20 → fm_G p l e (headSpec (Cond.code y_Wi_init b_Wi_init 2 none :: fm_T0) ({ frames := 2, cells := 43, slots := 2729, locals := 40 })).room s m args below meth c (MQ below (fm_Qc fm_lay fm_nf fm_fk fm_cl b x D dA (fun r n' M' => r = none ∧ n' = n + 43 ∧ M' = m_Wi_init M o n)) args s 43 2729 (fm_A b)) fm_lay fm_nf fm_fk fm_cl b x D dA 2 31 [(1, .int (nI i)), (0, .ref o)] [] (n + 3 + 2 * i) (m_WiL M o n i) (3 + 2 * i, 149 + 129 * i) := by
    intro k
    induction k with
    | zero =>
      intro i hi
      have hi : i = 20 := by omega
      subst hi
      refine fm_iload_n hc d_Wi_init_31 rfl rfl ?_
      refine fm_bipush (v := nI 20) hc d_Wi_init_32 rfl ?_
      refine fm_icmp_ge (tgt := 56) hc d_Wi_init_34 rfl (fun h => ?_) (fun h => absurd (nI_le (Nat.le_refl _) (by omega)) h)
      exact fm_vret hc hr d_Wi_init_56 (Nat.le_of_ble_eq_true rfl) (Nat.le_of_ble_eq_true rfl) ⟨rfl, rfl, rfl⟩
    | succ k ih =>
      intro i hi
      have hiN : i < 20 := by omega
      obtain ⟨hT0, hT1⟩ := hM i hiN
      refine fm_iload_n hc d_Wi_init_31 rfl rfl ?_
      refine fm_bipush (v := nI 20) hc d_Wi_init_32 rfl ?_
      refine fm_icmp_ge (tgt := 56) hc d_Wi_init_34 rfl (fun h => absurd h (nI_ge (by omega) (by omega))) (fun h => ?_)
      refine fm_aload_n hc d_Wi_init_37 rfl rfl ?_
      refine fm_getR (k := 0) (q := n) hc K_Wi d_Wi_init_38 q_82 rfl h8 (by omega) hl (by decide) (by decide) rfl (m_WiL_p hn i) ?_
      refine fm_iload_n hc d_Wi_init_41 rfl rfl ?_
      refine fm_new hc K_Ms d_Wi_init_42 q_43 q_45 q_3 (by omega) (congrArg Prod.fst hT0) (by decide) df_Ms (by show s.heap.size + (3 + 2 * i) = _; omega) (by show 3 + 2 * i + 1 ≤ 43; omega) (by show 149 + 129 * i + 8 ≤ 2729; omega) ?_
      refine fm_dup hc d_Wi_init_45 rfl ?_
      refine fm_callIN (av := []) (rest := [.ref (n + 3 + 2 * i), .int (nI i), .ref n]) (y := y_Ms_init) (bytes := b_Ms_init) hc fm_T0_good (fm_EX_st b x) hex q_48 q_3 (nx_0 hex) q_47 rfl pd_Ms_init (c_Ms_init (l := l) (b := b) (x := x) (D := D) (dA := dA) (o := n + 3 + 2 * i) (n := n + 3 + 2 * i + 1) (by omega) (by omega) (congrArg Prod.fst hT0) hT1) ⟨rfl, rfl, Nat.le_of_ble_eq_true rfl, Nat.le_of_ble_eq_true rfl⟩ ⟨by show 3 + 2 * i + 1 + 1 ≤ 43; omega, by show 149 + 129 * i + 8 + 121 ≤ 2729; omega⟩ (by show s.heap.size + (3 + 2 * i + 1) = _; omega) d_Wi_init_46 (Nat.le_of_ble_eq_true rfl) (fun r n2 M2 hp => ?_)
      obtain ⟨rfl, rfl, rfl⟩ := hp
      refine fm_st (st' := [.ref (n + 3 + 2 * i), .int (nI i), .ref n]) rfl ?_
      refine fm_aast (r := ("AgentNet$Message", F_Ms, 8)) (len := 20) (ki := 122) (ci := 9) hc 6 d_Wi_init_49 (by omega) (by omega) (hL 0 (by decide)) (by decide) rfl hiN (by decide) (by omega) (by omega) (congrArg Prod.fst hT0) (by decide) rfl ?_
      refine fm_iinc (v := nI (i + 1)) (lv' := [(1, .int (nI (i + 1))), (0, .ref o)]) hc d_Wi_init_50 rfl (nI_1 i) (by decide) rfl ?_
      refine fm_goto (tgt := 31) hc d_Wi_init_53 rfl ?_
      refine fm_mem (n' := n + 3 + 2 * (i + 1)) (M' := m_WiL M o n (i + 1)) (by omega) rfl ?_
      refine fm_cnt (z' := (3 + 2 * (i + 1), 149 + 129 * (i + 1))) (Prod.ext (by show 3 + 2 * i + 1 + 1 = _; omega) (by show 149 + 129 * i + 8 + 121 = _; omega)) ?_
      exact ih (i + 1) (by omega)
  refine fm_aload_n hc d_Wi_init_0 rfl rfl ?_
  refine fm_objInit hc q_42 q_29 q_30 d_Wi_init_1 (Nat.le_of_ble_eq_true rfl) (Nat.le_of_ble_eq_true rfl) ?_
  refine fm_aload_n hc d_Wi_init_4 rfl rfl ?_
  refine fm_bipush (v := nI 20) hc d_Wi_init_5 rfl ?_
  refine fm_newR (len := 20) (ki := 122) hc 6 d_Wi_init_7 q_43 (va_AO.use (ax_2 hex)) (by omega) (hL 0 (by decide)) (by decide) rfl (by decide) (by omega) (Nat.le_of_ble_eq_true rfl) (Nat.le_of_ble_eq_true rfl) ?_
  refine fm_putRF (k := 0) (v := n) hc K_Wi d_Wi_init_10 q_82 rfl h8 (by omega) hl (by decide) (by decide) rfl rfl hnm rfl rfl rfl ?_
  refine fm_nm (fun M1 hM1 => ?_)
  refine fm_aload_n hc d_Wi_init_13 rfl rfl ?_
  refine fm_iconst (v := nI 0) hc d_Wi_init_14 rfl ?_
  refine fm_putI (k := 1) (v := nI 0) hc K_Wi d_Wi_init_15 q_84 rfl h8 (by omega) hl (by decide) (by decide) rfl rfl rfl rfl ?_
  refine fm_nm (fun M2 hM2 => ?_)
  refine fm_aload_n hc d_Wi_init_18 rfl rfl ?_
  refine fm_new hc K_Ms d_Wi_init_19 q_43 q_45 q_3 (by omega) (congrArg Prod.fst (hL 1 (by decide))) (by decide) df_Ms (by omega) (Nat.le_of_ble_eq_true rfl) (Nat.le_of_ble_eq_true rfl) ?_
  refine fm_dup hc d_Wi_init_22 rfl ?_
  refine fm_callIN (av := []) (rest := [.ref (n + 1), .ref o]) (y := y_Ms_init) (bytes := b_Ms_init) hc fm_T0_good (fm_EX_st b x) hex q_48 q_3 (nx_0 hex) q_47 rfl pd_Ms_init (c_Ms_init (l := l) (b := b) (x := x) (D := D) (dA := dA) (o := n + 1) (n := n + 2) (by omega) (by omega) (congrArg Prod.fst (hL 1 (by decide))) (hL 2 (by decide))) ⟨rfl, rfl, Nat.le_of_ble_eq_true rfl, Nat.le_of_ble_eq_true rfl⟩ ⟨(Nat.le_of_ble_eq_true rfl), (Nat.le_of_ble_eq_true rfl)⟩ (by omega) d_Wi_init_23 (Nat.le_of_ble_eq_true rfl) (fun r n2 M2 hp => ?_)
  obtain ⟨rfl, rfl, rfl⟩ := hp
  refine fm_st (st' := [.ref (n + 1), .ref o]) rfl ?_
  refine fm_mem (n' := n + 3) (M' := m_Ms_init (fm_clr M2 (n + 1)) (n + 1) (n + 2)) rfl rfl ?_
  refine fm_putR (k := 2) (v := n + 1) hc K_Wi d_Wi_init_26 q_86 rfl h8 (by omega) hl (by decide) (by decide) rfl rfl rfl rfl ?_
  refine fm_nm (fun M3 hM3 => ?_)
  refine fm_iconst (v := nI 0) hc d_Wi_init_29 rfl ?_
  refine fm_istore_n (lv' := [(1, .int (nI 0)), (0, .ref o)]) hc d_Wi_init_30 rfl (by decide) rfl ?_
  exact fm_mem (n' := n + 3 + 2 * 0) (M' := m_WiL M o n 0) rfl (by subst hM3; subst hM2; subst hM1; rfl) (loop31 20 0 rfl)
