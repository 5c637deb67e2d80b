/-! AgentNetModel.program -/
theorem wi_18 {c : Nat} (h1 : 1 ≤ c) (h8 : c ≤ 8) : fm_wi (nI c) (nI 1) (nI 8) := by
  have h : c = 1 ∨ c = 2 ∨ c = 3 ∨ c = 4 ∨ c = 5 ∨ c = 6 ∨ c = 7 ∨ c = 8 := by omega
  rcases h with rfl | rfl | rfl | rfl | rfl | rfl | rfl | rfl <;> exact ⟨by decide, by decide⟩
def rb_b (y : Int64) (c : Nat) : Int32 := ((y >>> ((nI (8 * c)).toInt64 &&& 63)) &&& 255).toInt32
def m_rapp (p0 : Nat) (y : Int64) : Nat → Nat → fm_M → fm_M
  | 0, _, M => M
  | c + 1, k, M => m_rapp p0 y c (k + 1) (fm_put1 (fm_put1 M 587 (48 * p0 + k) (rb_b y c)) 588 p0 (nI (k + 1)))
theorem r_program_ok {l : Launch} {b : Nat} {x : Nat → Nat} {D : va_G} {dA : Nat → ClassId} {p0 n k0 c0 : Nat} {y : Int64} {M0 : fm_M} (hn : 629 ≤ n) (hR0 : fm_RP M0) (hp : p0 < 4) (h1 : 1 ≤ c0) (h8 : c0 ≤ 8) (hL : ¬ 0 < M0.1 586 4) (hk0 : M0.1 588 p0 = nI k0) (hc0 : k0 + c0 ≤ 48) : Met l y_Mo_program (Cond.code y_Mo_program b_Mo_program 6 (some .int) :: fm_T0) ({ frames := 1, cells := 0, slots := 0, locals := 22 }) (fm_Pc fm_lay fm_nf fm_fk fm_cl b x D dA (fm_tys dA) (fm_EX b x) false [.ref 586, .int (nI p0), .long y, .int (nI c0)] n M0) (fm_Qc fm_lay fm_nf fm_fk fm_cl b x D dA (fun r n' M' => r = some (.int (nI (k0 + c0))) ∧ n' = n ∧ M' = m_rapp p0 y c0 k0 (fm_put1 M0 586 0 (nI 0)))) 0 0 (fm_A b) := by
  refine fm_enter (by decide) (Nat.le_of_ble_eq_true rfl) ?_
  intro p e s m args below meth c9 hc hr hnm hex htg
  have loop : ∀ c k (M : fm_M), fm_RP M → M.1 588 p0 = nI k → k + c ≤ 48 → k + c = k0 + c0 → m_rapp p0 y c k M = m_rapp p0 y c0 k0 (fm_put1 M0 586 0 (nI 0)) → fm_G p l e (headSpec (Cond.code y_Mo_program b_Mo_program 6 (some .int) :: fm_T0) ({ frames := 1, cells := 0, slots := 0, locals := 22 })).room s m args below meth c9 (MQ below (fm_Qc fm_lay fm_nf fm_fk fm_cl b x D dA (fun r n' M' => r = some (.int (nI (k0 + c0))) ∧ n' = n ∧ M' = m_rapp p0 y c0 k0 (fm_put1 M0 586 0 (nI 0)))) args s 0 0 (fm_A b)) fm_lay fm_nf fm_fk fm_cl b x D dA 6 54 [(5, .int (lpc c)), (0, .ref 586), (1, .int (nI p0)), (2, .long y), (4, .int (nI c0))] [] n M (0, 0) := by
    intro c
    induction c with
    | zero =>
      intro k M hR hk hle hsum hF
      refine fm_iload hc d_Mo_program_54 rfl ?_
      refine fm_if_lt (tgt := 103) hc d_Mo_program_56 rfl (fun _ => ?_) (fun g => absurd (show (-1 : Int32) < 0 by decide) g)
      refine fm_aload_n hc d_Mo_program_103 rfl rfl ?_
      refine fm_getR (k := 2) (q := 588) hc K_Mo d_Mo_program_104 q_887 rfl (by decide) (by omega) (by decide) (by decide) (by decide) rfl (rp_lengths hR) ?_
      refine fm_iload_n hc d_Mo_program_107 rfl rfl ?_
      refine fm_iald (j := p0) (len := 4) hc 0 d_Mo_program_108 (by decide) (by omega) (by decide) rfl (by omega) (by decide) ?_
      refine fm_top (congrArg Value.int hk) ?_
      exact fm_iret hc hr d_Mo_program_109 (Nat.le_refl _) (Nat.le_refl _) ⟨by rw [← hsum]; rfl, rfl, hF⟩
    | succ c ih =>
      intro k M hR hk hle hsum hF
      refine fm_iload hc d_Mo_program_54 rfl ?_
      refine fm_if_lt (tgt := 103) hc d_Mo_program_56 rfl (fun g => absurd g (nI_pos (n := c) (by omega))) (fun _ => ?_)
      refine fm_st (st' := []) rfl ?_
      refine fm_aload_n hc d_Mo_program_59 rfl rfl ?_
      refine fm_getR (k := 1) (q := 587) hc K_Mo d_Mo_program_60 q_886 rfl (by decide) (by omega) (by decide) (by decide) (by decide) rfl (rp_bytes hR) ?_
      refine fm_bipush (v := nI 48) hc d_Mo_program_63 rfl ?_
      refine fm_iload_n hc d_Mo_program_65 rfl rfl ?_
      refine fm_imul hc d_Mo_program_66 ?_
      refine fm_top (congrArg Value.int (pk_mul 48 p0)) ?_
      refine fm_aload_n hc d_Mo_program_67 rfl rfl ?_
      refine fm_getR (k := 2) (q := 588) hc K_Mo d_Mo_program_68 q_887 rfl (by decide) (by omega) (by decide) (by decide) (by decide) rfl (rp_lengths hR) ?_
      refine fm_iload_n hc d_Mo_program_71 rfl rfl ?_
      refine fm_iald (j := p0) (len := 4) hc 0 d_Mo_program_72 (by decide) (by omega) (by decide) rfl (by omega) (by decide) ?_
      refine fm_top (congrArg Value.int hk) ?_
      refine fm_iadd hc d_Mo_program_73 ?_
      refine fm_top (congrArg Value.int (nI_add (48 * p0) k)) ?_
      refine fm_lload_n hc d_Mo_program_74 rfl rfl ?_
      refine fm_bipush (v := nI 8) hc d_Mo_program_75 rfl ?_
      refine fm_iload hc d_Mo_program_77 rfl ?_
      refine fm_imul hc d_Mo_program_79 ?_
      refine fm_top (congrArg Value.int (pk_mul 8 c)) ?_
      refine fm_lshr hc d_Mo_program_80 ?_
      refine fm_ldc2 (v := 255) hc d_Mo_program_81 q_1050 ?_
      refine fm_land hc d_Mo_program_84 ?_
      refine fm_l2i hc d_Mo_program_85 ?_
      refine fm_iast (j := (48 * p0) + k) (len := 192) (v := ((y >>> ((nI (8 * c)).toInt64 &&& 63)) &&& 255).toInt32) hc 0 d_Mo_program_86 (by decide) (by omega) (by decide) rfl (by omega) (by decide) ?_
      refine fm_aload_n hc d_Mo_program_87 rfl rfl ?_
      refine fm_getR (k := 2) (q := 588) hc K_Mo d_Mo_program_88 q_887 rfl (by decide) (by omega) (by decide) (by decide) (by decide) rfl (rp_lengths hR) ?_
      refine fm_iload_n hc d_Mo_program_91 rfl rfl ?_
      refine fm_dup2_11 hc d_Mo_program_92 rfl rfl ?_
      refine fm_iald (j := p0) (len := 4) hc 0 d_Mo_program_93 (by decide) (by omega) (by decide) rfl (by omega) (by decide) ?_
      refine fm_top (congrArg Value.int ((p1_other (by decide)).trans hk)) ?_
      refine fm_iconst (v := nI 1) hc d_Mo_program_94 rfl ?_
      refine fm_iadd hc d_Mo_program_95 ?_
      refine fm_top (congrArg Value.int (nI_add k 1)) ?_
      refine fm_iast (j := p0) (len := 4) (v := nI (k + 1)) hc 0 d_Mo_program_96 (by decide) (by omega) (by decide) rfl (by omega) (by decide) ?_
      refine fm_iinc (v := lpc c) (lv' := [(5, .int (lpc c)), (0, .ref 586), (1, .int (nI p0)), (2, .long y), (4, .int (nI c0))]) hc d_Mo_program_97 rfl (lpc_dec c) (by decide) rfl ?_
      refine fm_goto (tgt := 54) hc d_Mo_program_100 rfl ?_
      exact ih (k + 1) _ hR (p1_same _ _ _ _) (by omega) (by omega) hF
  refine fm_aload_n hc d_Mo_program_0 rfl rfl ?_
  refine fm_iconst (v := nI 0) hc d_Mo_program_1 rfl ?_
  refine fm_putI (k := 0) (v := nI 0) hc K_Mo d_Mo_program_2 q_885 rfl (by decide) (by omega) (by decide) (by decide) (by decide) rfl rfl rfl rfl ?_
  refine fm_iload_n hc d_Mo_program_5 rfl rfl ?_
  refine fm_iconst (v := nI 0) hc d_Mo_program_6 rfl ?_
  refine fm_iconst (v := nI 3) hc d_Mo_program_7 rfl ?_
  refine fm_callS (av := [.int (nI p0), .int (nI 0), .int (nI 3)]) (rest := []) (y := y_Mo_within) (bytes := b_Mo_within) hc fm_T0_good (fm_EX_st b x) hex q_1049 q_13 q_1047 q_1048 pd_Mo_within (c_Mo_within_ok (wi_of4 (in4_of hp))) ⟨rfl, rfl, Nat.le_of_ble_eq_true rfl, Nat.le_of_ble_eq_true rfl⟩ ⟨Nat.le_of_ble_eq_true rfl, Nat.le_of_ble_eq_true rfl⟩ d_Mo_program_8 (Nat.le_of_ble_eq_true rfl) (fun r n2 M2 hp => ?_)
  obtain ⟨rfl, hq1, hq2⟩ := hp
  replace hq1 := hq1.symm
  replace hq2 := hq2.symm
  subst hq1 hq2
  refine fm_cnt (z' := (0, 0)) rfl (fm_st (st' := [.int (nI 1)]) rfl ?_)
  refine fm_if_eq (tgt := 46) hc d_Mo_program_11 rfl (fun g => absurd g (by decide)) (fun _ => ?_)
  refine fm_iload hc d_Mo_program_14 rfl ?_
  refine fm_iconst (v := nI 1) hc d_Mo_program_16 rfl ?_
  refine fm_bipush (v := nI 8) hc d_Mo_program_17 rfl ?_
  refine fm_callS (av := [.int (nI c0), .int (nI 1), .int (nI 8)]) (rest := []) (y := y_Mo_within) (bytes := b_Mo_within) hc fm_T0_good (fm_EX_st b x) hex q_1049 q_13 q_1047 q_1048 pd_Mo_within (c_Mo_within_ok (wi_18 h1 h8)) ⟨rfl, rfl, Nat.le_of_ble_eq_true rfl, Nat.le_of_ble_eq_true rfl⟩ ⟨Nat.le_of_ble_eq_true rfl, Nat.le_of_ble_eq_true rfl⟩ d_Mo_program_19 (Nat.le_of_ble_eq_true rfl) (fun r n2 M2 hp => ?_)
  obtain ⟨rfl, hq1, hq2⟩ := hp
  replace hq1 := hq1.symm
  replace hq2 := hq2.symm
  subst hq1 hq2
  refine fm_cnt (z' := (0, 0)) rfl (fm_st (st' := [.int (nI 1)]) rfl ?_)
  refine fm_if_eq (tgt := 46) hc d_Mo_program_22 rfl (fun g => absurd g (by decide)) (fun _ => ?_)
  refine fm_aload_n hc d_Mo_program_25 rfl rfl ?_
  refine fm_getI (k := 4) hc K_Mo d_Mo_program_26 q_889 rfl (by decide) (by omega) (by decide) (by decide) (by decide) rfl ?_
  refine fm_if_gt (tgt := 46) hc d_Mo_program_29 rfl (fun g => absurd g hL) (fun _ => ?_)
  refine fm_aload_n hc d_Mo_program_32 rfl rfl ?_
  refine fm_getR (k := 2) (q := 588) hc K_Mo d_Mo_program_33 q_887 rfl (by decide) (by omega) (by decide) (by decide) (by decide) rfl (rp_lengths hR0) ?_
  refine fm_iload_n hc d_Mo_program_36 rfl rfl ?_
  refine fm_iald (j := p0) (len := 4) hc 0 d_Mo_program_37 (by decide) (by omega) (by decide) rfl (by omega) (by decide) ?_
  refine fm_top (congrArg Value.int (show _ = nI k0 from hk0)) ?_
  refine fm_iload hc d_Mo_program_38 rfl ?_
  refine fm_iadd hc d_Mo_program_40 ?_
  refine fm_top (congrArg Value.int (nI_add k0 c0)) ?_
  refine fm_bipush (v := nI 48) hc d_Mo_program_41 rfl ?_
  refine fm_icmp_le (tgt := 48) hc d_Mo_program_43 rfl (fun _ => ?_) (fun g => absurd (nI_le hc0 (by decide)) g)
  refine fm_iload hc d_Mo_program_48 rfl ?_
  refine fm_iconst (v := nI 1) hc d_Mo_program_50 rfl ?_
  refine fm_isub hc d_Mo_program_51 ?_
  refine fm_top (congrArg Value.int (lpc_sub c0)) ?_
  refine fm_istore (lv' := [(5, .int (lpc c0)), (0, .ref 586), (1, .int (nI p0)), (2, .long y), (4, .int (nI c0))]) hc d_Mo_program_52 (by decide) rfl ?_
  exact loop c0 k0 (fm_put1 M0 586 0 (nI 0)) hR0 hk0 hc0 rfl rfl
