/-! the reference where there are no agents -/
theorem r_step_ok0 {l : Launch} {b : Nat} {x : Nat → Nat} {D : va_G} {dA : Nat → ClassId} {j c0 : Nat} {n : Nat} {M : fm_M} (hn : 629 ≤ n) (hR : fm_RP M) (hj : j < 4) (hz : ∀ i, i < 8 → M.1 597 (24 * j + i) = 0) (hu : ¬ M.1 595 j = 0) (ht : ∀ i, i < 8 → M.1 604 i = 0) (hc1 : 1 ≤ c0) (hc40 : c0 ≤ 40) : Met l y_Mo_step (Cond.code y_Mo_step b_Mo_step 8 (some .int) :: fm_T0) ({ frames := 2, cells := 0, slots := 0, locals := 44 }) (fm_Pc fm_lay fm_nf fm_fk fm_cl b x D dA (fm_tys dA) (fm_EX b x) false [.ref 586, .int (nI j), .int (nI c0)] n M) (fm_Qc fm_lay fm_nf fm_fk fm_cl b x D dA (fun r n' M' => r = some (.int (nI 0)) ∧ n' = n ∧ M' = fm_put1 M 586 0 (nI 0))) 0 0 (fm_A b) := by
  refine fm_enter (by decide) (Nat.le_of_ble_eq_true rfl) ?_
  intro p e s m args below meth c hc hr hnm hex htg
  refine fm_aload_n hc d_Mo_step_0 rfl rfl ?_
  refine fm_aload_n hc d_Mo_step_1 rfl rfl ?_
  refine fm_iload_n hc d_Mo_step_2 rfl rfl ?_
  refine fm_iload_n hc d_Mo_step_3 rfl rfl ?_
  refine fm_iconst (v := nI 1) hc d_Mo_step_4 rfl ?_
  refine fm_bipush (v := nI 40) hc d_Mo_step_5 rfl ?_
  refine fm_callS (av := [.int (nI c0), .int (nI 1), .int (nI 40)]) (rest := [.int (nI j), .ref 586, .ref 586]) (y := y_Mo_within) (bytes := b_Mo_within) hc fm_T0_good (fm_EX_st b x) hex q_1049 q_13 q_1047 q_1048 pd_Mo_within (c_Mo_within_ok ⟨hnlt (a := c0) (c := 1) (by omega) (by omega), hnlt (a := 40) (c := c0) (by omega) (by omega)⟩) ⟨rfl, rfl, Nat.le_of_ble_eq_true rfl, Nat.le_of_ble_eq_true rfl⟩ ⟨Nat.le_of_ble_eq_true rfl, Nat.le_of_ble_eq_true rfl⟩ d_Mo_step_7 (Nat.le_of_ble_eq_true rfl) (fun r n2 M2 hp => ?_)
  obtain ⟨rfl, hq1, hq2⟩ := hp
  replace hq1 := hq1.symm
  replace hq2 := hq2.symm
  subst hq1 hq2
  refine fm_cnt (z' := (0, 0)) rfl (fm_st (st' := [.int (nI 1), .int (nI j), .ref 586, .ref 586]) rfl ?_)
  refine fm_callV (av := [.int (nI j), .int (nI 1)]) (rest := [.ref 586]) (ob := 586) (ci := 11) (r0 := ("AgentNetModel", F_Mo, 51)) (y := y_Mo_wrongAt) (bytes := b_Mo_wrongAt) hc fm_T0_good (fm_EX_st b x) hex q_1078 q_13 q_1075 q_1077 qs_Mo_wrongAt pd_Mo_wrongAt (by decide) (by omega) (by decide) (by decide) rfl rfl (c_wrongAt_fine hn hR hj hu) ⟨rfl, rfl, Nat.le_of_ble_eq_true rfl, Nat.le_of_ble_eq_true rfl⟩ ⟨Nat.le_of_ble_eq_true rfl, Nat.le_of_ble_eq_true rfl⟩ d_Mo_step_10 (Nat.le_of_ble_eq_true rfl) (fun r n2 M2 hp => ?_)
  obtain ⟨rfl, hq1, hq2⟩ := hp
  replace hq1 := hq1.symm
  replace hq2 := hq2.symm
  subst hq1 hq2
  refine fm_cnt (z' := (0, 0)) rfl (fm_st (st' := [.int (nI 0), .ref 586]) rfl ?_)
  refine fm_putI (k := 0) (v := nI 0) hc K_Mo d_Mo_step_13 q_885 rfl (by decide) (by omega) (by decide) (by decide) (by decide) rfl rfl rfl rfl ?_
  refine fm_aload_n hc d_Mo_step_16 rfl rfl ?_
  refine fm_getI (k := 0) hc K_Mo d_Mo_step_17 q_885 rfl (by decide) (by omega) (by decide) (by decide) (by decide) rfl ?_
  refine fm_top (congrArg Value.int (p1_same _ _ _ _)) ?_
  refine fm_if_le (tgt := 25) hc d_Mo_step_20 rfl (fun _ => ?_) (fun g => absurd (by decide) g)
  refine fm_iconst (v := nI 0) hc d_Mo_step_25 rfl ?_
  refine fm_istore_n (lv' := [(3, .int (nI 0)), (0, .ref 586), (1, .int (nI j)), (2, .int (nI c0))]) hc d_Mo_step_26 rfl (by decide) rfl ?_
  refine fm_iconst (v := nI 0) hc d_Mo_step_27 rfl ?_
  refine fm_istore (lv' := [(4, .int (nI 0)), (3, .int (nI 0)), (0, .ref 586), (1, .int (nI j)), (2, .int (nI c0))]) hc d_Mo_step_28 (by decide) rfl ?_
  refine fm_loop0 (N := c0) (lv := fun k => [(4, .int (nI k)), (3, .int (nI 0)), (0, .ref 586), (1, .int (nI j)), (2, .int (nI c0))]) (fun k hk ih1 => ?_) ?_
  · refine fm_iload hc d_Mo_step_30 rfl ?_
    refine fm_iload_n hc d_Mo_step_32 rfl rfl ?_
    refine fm_icmp_ge (tgt := 191) hc d_Mo_step_33 rfl (fun g => absurd g (hnle (a := c0) (c := k) hk (by omega))) (fun _ => ?_)
    refine fm_iconst (v := nI 0) hc d_Mo_step_36 rfl ?_
    refine fm_istore (lv' := [(5, .int (nI 0)), (4, .int (nI k)), (3, .int (nI 0)), (0, .ref 586), (1, .int (nI j)), (2, .int (nI c0))]) hc d_Mo_step_37 (by decide) rfl ?_
    refine fm_loop0 (N := 8) (lv := fun u => [(5, .int (nI u)), (4, .int (nI k)), (3, .int (nI 0)), (0, .ref 586), (1, .int (nI j)), (2, .int (nI c0))]) (fun u hu1 ih2 => ?_) ?_
    · refine fm_iload hc d_Mo_step_39 rfl ?_
      refine fm_bipush (v := nI 8) hc d_Mo_step_41 rfl ?_
      refine fm_icmp_ge (tgt := 104) hc d_Mo_step_43 rfl (fun g => absurd g (hnle (a := 8) (c := u) hu1 (by omega))) (fun _ => ?_)
      refine fm_bipush (v := nI 24) hc d_Mo_step_46 rfl ?_
      refine fm_iload_n hc d_Mo_step_48 rfl rfl ?_
      refine fm_imul hc d_Mo_step_49 ?_
      refine fm_top (congrArg Value.int (pk_mul 24 j)) ?_
      refine fm_iload hc d_Mo_step_50 rfl ?_
      refine fm_iadd hc d_Mo_step_52 ?_
      refine fm_top (congrArg Value.int (nI_add (24 * j) u)) ?_
      refine fm_istore (lv' := [(6, .int (nI ((24 * j) + u))), (5, .int (nI u)), (4, .int (nI k)), (3, .int (nI 0)), (0, .ref 586), (1, .int (nI j)), (2, .int (nI c0))]) hc d_Mo_step_53 (by decide) rfl ?_
      refine fm_aload_n hc d_Mo_step_55 rfl rfl ?_
      refine fm_getR (k := 19) (q := 604) hc K_Mo d_Mo_step_56 q_904 rfl (by decide) (by omega) (by decide) (by decide) (by decide) rfl (rp_turn hR) ?_
      refine fm_iload hc d_Mo_step_59 rfl ?_
      refine fm_aload_n hc d_Mo_step_61 rfl rfl ?_
      refine fm_getR (k := 12) (q := 597) hc K_Mo d_Mo_step_62 q_897 rfl (by decide) (by omega) (by decide) (by decide) (by decide) rfl (rp_slot hR) ?_
      refine fm_iload hc d_Mo_step_65 rfl ?_
      refine fm_iald (j := (24 * j) + u) (len := 96) hc 0 d_Mo_step_67 (by decide) (by omega) (by decide) rfl (by omega) (by decide) ?_
      refine fm_iconst (v := nI 1) hc d_Mo_step_68 rfl ?_
      refine fm_icmp_ne (tgt := 96) hc d_Mo_step_69 rfl (fun _ => ?_) (fun g => absurd g (fun g => absurd ((hz u hu1).symm.trans g) (by decide)))
      refine fm_iconst (v := nI 0) hc d_Mo_step_96 rfl ?_
      refine fm_zast (j := u) (len := 8) (v := nI 0) hc 1 d_Mo_step_97 (by decide) (by omega) (by decide) rfl (by omega) (by decide) ?_
      refine fm_mem (M' := fm_put1 M 586 0 (nI 0)) rfl (p1_id (ht u hu1)) ?_
      refine fm_iinc (v := nI (u + 1)) (lv' := [(5, .int (nI (u + 1))), (6, .int (nI ((24 * j) + u))), (4, .int (nI k)), (3, .int (nI 0)), (0, .ref 586), (1, .int (nI j)), (2, .int (nI c0))]) hc d_Mo_step_98 rfl (nI_1 u) (by decide) rfl ?_
      refine fm_goto (tgt := 39) hc d_Mo_step_101 rfl ?_
      refine fm_dropl (lv' := [(5, .int (nI (u + 1))), (4, .int (nI k)), (3, .int (nI 0)), (0, .ref 586), (1, .int (nI j)), (2, .int (nI c0))]) (by simp) ?_
      exact ih2
    · refine fm_iload hc d_Mo_step_39 rfl ?_
      refine fm_bipush (v := nI 8) hc d_Mo_step_41 rfl ?_
      refine fm_icmp_ge (tgt := 104) hc d_Mo_step_43 rfl (fun _ => ?_) (fun g => absurd (by decide) g)
      refine fm_iconst (v := nI 0) hc d_Mo_step_104 rfl ?_
      refine fm_istore (lv' := [(5, .int (nI 0)), (4, .int (nI k)), (3, .int (nI 0)), (0, .ref 586), (1, .int (nI j)), (2, .int (nI c0))]) hc d_Mo_step_105 (by decide) rfl ?_
      refine fm_loop0 (N := 8) (lv := fun w => [(5, .int (nI w)), (4, .int (nI k)), (3, .int (nI 0)), (0, .ref 586), (1, .int (nI j)), (2, .int (nI c0))]) (fun w hw1 ih3 => ?_) ?_
      · refine fm_iload hc d_Mo_step_107 rfl ?_
        refine fm_bipush (v := nI 8) hc d_Mo_step_109 rfl ?_
        refine fm_icmp_ge (tgt := 185) hc d_Mo_step_111 rfl (fun g => absurd g (hnle (a := 8) (c := w) hw1 (by omega))) (fun _ => ?_)
        refine fm_aload_n hc d_Mo_step_114 rfl rfl ?_
        refine fm_getR (k := 19) (q := 604) hc K_Mo d_Mo_step_115 q_904 rfl (by decide) (by omega) (by decide) (by decide) (by decide) rfl (rp_turn hR) ?_
        refine fm_iload hc d_Mo_step_118 rfl ?_
        refine fm_zald (j := w) (len := 8) hc 1 d_Mo_step_120 (by decide) (by omega) (by decide) rfl (by omega) (by decide) ?_
        refine fm_if_eq (tgt := 179) hc d_Mo_step_121 rfl (fun _ => ?_) (fun g => absurd (ht w hw1) g)
        refine fm_iinc (v := nI (w + 1)) (lv' := [(5, .int (nI (w + 1))), (4, .int (nI k)), (3, .int (nI 0)), (0, .ref 586), (1, .int (nI j)), (2, .int (nI c0))]) hc d_Mo_step_179 rfl (nI_1 w) (by decide) rfl ?_
        refine fm_goto (tgt := 107) hc d_Mo_step_182 rfl ?_
        exact ih3
      · refine fm_iload hc d_Mo_step_107 rfl ?_
        refine fm_bipush (v := nI 8) hc d_Mo_step_109 rfl ?_
        refine fm_icmp_ge (tgt := 185) hc d_Mo_step_111 rfl (fun _ => ?_) (fun g => absurd (by decide) g)
        refine fm_iinc (v := nI (k + 1)) (lv' := [(4, .int (nI (k + 1))), (5, .int (nI 8)), (3, .int (nI 0)), (0, .ref 586), (1, .int (nI j)), (2, .int (nI c0))]) hc d_Mo_step_185 rfl (nI_1 k) (by decide) rfl ?_
        refine fm_goto (tgt := 30) hc d_Mo_step_188 rfl ?_
        refine fm_dropl (lv' := [(4, .int (nI (k + 1))), (3, .int (nI 0)), (0, .ref 586), (1, .int (nI j)), (2, .int (nI c0))]) (by simp) ?_
        exact ih1
  · refine fm_iload hc d_Mo_step_30 rfl ?_
    refine fm_iload_n hc d_Mo_step_32 rfl rfl ?_
    refine fm_icmp_ge (tgt := 191) hc d_Mo_step_33 rfl (fun _ => ?_) (fun g => absurd (nI_le (Nat.le_refl _) (by omega)) g)
    refine fm_iload_n hc d_Mo_step_191 rfl rfl ?_
    exact fm_iret hc hr d_Mo_step_192 (Nat.le_refl _) (Nat.le_refl _) ⟨rfl, rfl, rfl⟩
theorem r_tick_ok0 {l : Launch} {b : Nat} {x : Nat → Nat} {D : va_G} {dA : Nat → ClassId} {j : Nat} {n : Nat} {M : fm_M} (hn : 629 ≤ n) (hR : fm_RP M) (hj : j < 4) (hz : ∀ i, i < 8 → M.1 597 (24 * j + i) = 0) (hu : ¬ M.1 595 j = 0) : Met l y_Mo_tick (Cond.code y_Mo_tick b_Mo_tick 4 (some .int) :: fm_T0) ({ frames := 2, cells := 0, slots := 0, locals := 44 }) (fm_Pc fm_lay fm_nf fm_fk fm_cl b x D dA (fm_tys dA) (fm_EX b x) false [.ref 586, .int (nI j)] n M) (fm_Qc fm_lay fm_nf fm_fk fm_cl b x D dA (fun r n' M' => r = some (.int (M.1 586 37)) ∧ n' = n ∧ M' = fm_put1 M 586 0 (nI 0))) 0 0 (fm_A b) := by
  refine fm_enter (by decide) (Nat.le_of_ble_eq_true rfl) ?_
  intro p e s m args below meth c hc hr hnm hex htg
  refine fm_aload_n hc d_Mo_tick_0 rfl rfl ?_
  refine fm_aload_n hc d_Mo_tick_1 rfl rfl ?_
  refine fm_iload_n hc d_Mo_tick_2 rfl rfl ?_
  refine fm_iconst (v := nI 1) hc d_Mo_tick_3 rfl ?_
  refine fm_callV (av := [.int (nI j), .int (nI 1)]) (rest := [.ref 586]) (ob := 586) (ci := 11) (r0 := ("AgentNetModel", F_Mo, 51)) (y := y_Mo_wrongAt) (bytes := b_Mo_wrongAt) hc fm_T0_good (fm_EX_st b x) hex q_1078 q_13 q_1075 q_1077 qs_Mo_wrongAt pd_Mo_wrongAt (by decide) (by omega) (by decide) (by decide) rfl rfl (c_wrongAt_fine hn hR hj hu) ⟨rfl, rfl, Nat.le_of_ble_eq_true rfl, Nat.le_of_ble_eq_true rfl⟩ ⟨Nat.le_of_ble_eq_true rfl, Nat.le_of_ble_eq_true rfl⟩ d_Mo_tick_4 (Nat.le_of_ble_eq_true rfl) (fun r n2 M2 hp => ?_)
  obtain ⟨rfl, hq1, hq2⟩ := hp
  replace hq1 := hq1.symm
  replace hq2 := hq2.symm
  subst hq1 hq2
  refine fm_cnt (z' := (0, 0)) rfl (fm_st (st' := [.int (nI 0), .ref 586]) rfl ?_)
  refine fm_putI (k := 0) (v := nI 0) hc K_Mo d_Mo_tick_7 q_885 rfl (by decide) (by omega) (by decide) (by decide) (by decide) rfl rfl rfl rfl ?_
  refine fm_aload_n hc d_Mo_tick_10 rfl rfl ?_
  refine fm_getI (k := 0) hc K_Mo d_Mo_tick_11 q_885 rfl (by decide) (by omega) (by decide) (by decide) (by decide) rfl ?_
  refine fm_top (congrArg Value.int (p1_same _ _ _ _)) ?_
  refine fm_if_le (tgt := 19) hc d_Mo_tick_14 rfl (fun _ => ?_) (fun g => absurd (by decide) g)
  refine fm_bipush (v := nI 24) hc d_Mo_tick_19 rfl ?_
  refine fm_iload_n hc d_Mo_tick_21 rfl rfl ?_
  refine fm_imul hc d_Mo_tick_22 ?_
  refine fm_top (congrArg Value.int (pk_mul 24 j)) ?_
  refine fm_istore_n (lv' := [(2, .int (nI (24 * j))), (0, .ref 586), (1, .int (nI j))]) hc d_Mo_tick_23 rfl (by decide) rfl ?_
  refine fm_loop0 (N := 8) (lv := fun k => [(2, .int (nI (24 * j + k))), (0, .ref 586), (1, .int (nI j))]) (fun k hk ih4 => ?_) ?_
  · refine fm_iload_n hc d_Mo_tick_24 rfl rfl ?_
    refine fm_bipush (v := nI 24) hc d_Mo_tick_25 rfl ?_
    refine fm_iload_n hc d_Mo_tick_27 rfl rfl ?_
    refine fm_imul hc d_Mo_tick_28 ?_
    refine fm_top (congrArg Value.int (pk_mul 24 j)) ?_
    refine fm_bipush (v := nI 8) hc d_Mo_tick_29 rfl ?_
    refine fm_iadd hc d_Mo_tick_31 ?_
    refine fm_top (congrArg Value.int (nI_add (24 * j) 8)) ?_
    refine fm_icmp_ge (tgt := 83) hc d_Mo_tick_32 rfl (fun g => absurd g (hnle (a := 24 * j + 8) (c := 24 * j + k) (by omega) (by omega))) (fun _ => ?_)
    refine fm_aload_n hc d_Mo_tick_35 rfl rfl ?_
    refine fm_getR (k := 25) (q := 610) hc K_Mo d_Mo_tick_36 q_910 rfl (by decide) (by omega) (by decide) (by decide) (by decide) rfl (rp_wait hR) ?_
    refine fm_iload_n hc d_Mo_tick_39 rfl rfl ?_
    refine fm_aload_n hc d_Mo_tick_40 rfl rfl ?_
    refine fm_getR (k := 12) (q := 597) hc K_Mo d_Mo_tick_41 q_897 rfl (by decide) (by omega) (by decide) (by decide) (by decide) rfl (rp_slot hR) ?_
    refine fm_iload_n hc d_Mo_tick_44 rfl rfl ?_
    refine fm_iald (j := 24 * j + k) (len := 96) hc 0 d_Mo_tick_45 (by decide) (by omega) (by decide) rfl (by omega) (by decide) ?_
    refine fm_iconst (v := nI 1) hc d_Mo_tick_46 rfl ?_
    refine fm_icmp_ne (tgt := 70) hc d_Mo_tick_47 rfl (fun _ => ?_) (fun g => absurd g (fun g => absurd ((hz k hk).symm.trans g) (by decide)))
    refine fm_aload_n hc d_Mo_tick_70 rfl rfl ?_
    refine fm_getR (k := 25) (q := 610) hc K_Mo d_Mo_tick_71 q_910 rfl (by decide) (by omega) (by decide) (by decide) (by decide) rfl (rp_wait hR) ?_
    refine fm_iload_n hc d_Mo_tick_74 rfl rfl ?_
    refine fm_iald (j := 24 * j + k) (len := 98) hc 0 d_Mo_tick_75 (by decide) (by omega) (by decide) rfl (by omega) (by decide) ?_
    refine fm_iast (j := 24 * j + k) (len := 98) (v := (fm_put1 M 586 0 (nI 0)).1 610 (24 * j + k)) hc 0 d_Mo_tick_76 (by decide) (by omega) (by decide) rfl (by omega) (by decide) ?_
    refine fm_mem (M' := fm_put1 M 586 0 (nI 0)) rfl (p1_id rfl) ?_
    refine fm_iinc (v := nI (24 * j + k + 1)) (lv' := [(2, .int (nI (24 * j + k + 1))), (0, .ref 586), (1, .int (nI j))]) hc d_Mo_tick_77 rfl (nI_1 (24 * j + k)) (by decide) rfl ?_
    refine fm_goto (tgt := 24) hc d_Mo_tick_80 rfl ?_
    exact ih4
  · refine fm_iload_n hc d_Mo_tick_24 rfl rfl ?_
    refine fm_bipush (v := nI 24) hc d_Mo_tick_25 rfl ?_
    refine fm_iload_n hc d_Mo_tick_27 rfl rfl ?_
    refine fm_imul hc d_Mo_tick_28 ?_
    refine fm_top (congrArg Value.int (pk_mul 24 j)) ?_
    refine fm_bipush (v := nI 8) hc d_Mo_tick_29 rfl ?_
    refine fm_iadd hc d_Mo_tick_31 ?_
    refine fm_top (congrArg Value.int (nI_add (24 * j) 8)) ?_
    refine fm_icmp_ge (tgt := 83) hc d_Mo_tick_32 rfl (fun _ => ?_) (fun g => absurd (nI_le (Nat.le_refl _) (by omega)) g)
    refine fm_bipush (v := nI 24) hc d_Mo_tick_83 rfl ?_
    refine fm_iload_n hc d_Mo_tick_85 rfl rfl ?_
    refine fm_imul hc d_Mo_tick_86 ?_
    refine fm_top (congrArg Value.int (pk_mul 24 j)) ?_
    refine fm_istore_n (lv' := [(2, .int (nI (24 * j))), (0, .ref 586), (1, .int (nI j))]) hc d_Mo_tick_87 rfl (by decide) rfl ?_
    refine fm_loop0 (N := 8) (lv := fun k => [(2, .int (nI (24 * j + k))), (0, .ref 586), (1, .int (nI j))]) (fun k hk ih5 => ?_) ?_
    · refine fm_iload_n hc d_Mo_tick_88 rfl rfl ?_
      refine fm_bipush (v := nI 24) hc d_Mo_tick_89 rfl ?_
      refine fm_iload_n hc d_Mo_tick_91 rfl rfl ?_
      refine fm_imul hc d_Mo_tick_92 ?_
      refine fm_top (congrArg Value.int (pk_mul 24 j)) ?_
      refine fm_bipush (v := nI 8) hc d_Mo_tick_93 rfl ?_
      refine fm_iadd hc d_Mo_tick_95 ?_
      refine fm_top (congrArg Value.int (nI_add (24 * j) 8)) ?_
      refine fm_icmp_ge (tgt := 179) hc d_Mo_tick_96 rfl (fun g => absurd g (hnle (a := 24 * j + 8) (c := 24 * j + k) (by omega) (by omega))) (fun _ => ?_)
      refine fm_aload_n hc d_Mo_tick_99 rfl rfl ?_
      refine fm_getR (k := 12) (q := 597) hc K_Mo d_Mo_tick_100 q_897 rfl (by decide) (by omega) (by decide) (by decide) (by decide) rfl (rp_slot hR) ?_
      refine fm_iload_n hc d_Mo_tick_103 rfl rfl ?_
      refine fm_iald (j := 24 * j + k) (len := 96) hc 0 d_Mo_tick_104 (by decide) (by omega) (by decide) rfl (by omega) (by decide) ?_
      refine fm_iconst (v := nI 2) hc d_Mo_tick_105 rfl ?_
      refine fm_icmp_ne (tgt := 173) hc d_Mo_tick_106 rfl (fun _ => ?_) (fun g => absurd g (fun g => absurd ((hz k hk).symm.trans g) (by decide)))
      refine fm_iinc (v := nI (24 * j + k + 1)) (lv' := [(2, .int (nI (24 * j + k + 1))), (0, .ref 586), (1, .int (nI j))]) hc d_Mo_tick_173 rfl (nI_1 (24 * j + k)) (by decide) rfl ?_
      refine fm_goto (tgt := 88) hc d_Mo_tick_176 rfl ?_
      exact ih5
    · refine fm_iload_n hc d_Mo_tick_88 rfl rfl ?_
      refine fm_bipush (v := nI 24) hc d_Mo_tick_89 rfl ?_
      refine fm_iload_n hc d_Mo_tick_91 rfl rfl ?_
      refine fm_imul hc d_Mo_tick_92 ?_
      refine fm_top (congrArg Value.int (pk_mul 24 j)) ?_
      refine fm_bipush (v := nI 8) hc d_Mo_tick_93 rfl ?_
      refine fm_iadd hc d_Mo_tick_95 ?_
      refine fm_top (congrArg Value.int (nI_add (24 * j) 8)) ?_
      refine fm_icmp_ge (tgt := 179) hc d_Mo_tick_96 rfl (fun _ => ?_) (fun g => absurd (nI_le (Nat.le_refl _) (by omega)) g)
      refine fm_aload_n hc d_Mo_tick_179 rfl rfl ?_
      refine fm_getI (k := 37) hc K_Mo d_Mo_tick_180 q_922 rfl (by decide) (by omega) (by decide) (by decide) (by decide) rfl ?_
      exact fm_iret hc hr d_Mo_tick_183 (Nat.le_refl _) (Nat.le_refl _) ⟨rfl, rfl, rfl⟩
/-- agents u and w of the reference are alike -/
def fm_eqA (M : fm_M) (u w : Nat) : Prop := M.1 605 w = M.1 605 u ∧ M.1 606 w = M.1 606 u ∧ M.1 607 w = M.1 607 u ∧ M.1 608 w = M.1 608 u ∧ M.1 609 w = M.1 609 u ∧ M.1 610 w = M.1 610 u ∧ M.1 611 w = vp_nar .boolean (M.1 611 u) ∧ M.1 612 w = M.1 612 u ∧ M.1 614 w = M.1 614 u ∧ (∀ k, k < 6 → M.2.1 613 (6 * w + k) = M.2.1 613 (6 * u + k)) ∧ (∀ k, k < 9 → M.2.1 615 (9 * w + k) = M.2.1 615 (9 * u + k)) ∧ (∀ k, k < 9 → M.2.1 616 (9 * w + k) = M.2.1 616 (9 * u + k))
theorem c_moveAgent0 {l : Launch} {b : Nat} {x : Nat → Nat} {D : va_G} {dA : Nat → ClassId} {u w : Nat} {n : Nat} {M : fm_M} (hn : 629 ≤ n) (hR : fm_RP M) (hu : u < 98) (hw : w < 98) (he : fm_eqA M u w) : Met l y_Mo_moveAgent (Cond.code y_Mo_moveAgent b_Mo_moveAgent 4 none :: fm_T0) ({ frames := 0, cells := 0, slots := 0, locals := 0 }) (fm_Pc fm_lay fm_nf fm_fk fm_cl b x D dA (fm_tys dA) (fm_EX b x) false [.ref 586, .int (nI u), .int (nI w)] n M) (fm_Qc fm_lay fm_nf fm_fk fm_cl b x D dA (fun r n' M' => r = none ∧ n' = n ∧ M' = M)) 0 0 (fm_A b) := by
  refine fm_enter (by decide) (Nat.le_of_ble_eq_true rfl) ?_
  intro p e s m args below meth c hc hr hnm hex htg
  refine fm_aload_n hc d_Mo_moveAgent_0 rfl rfl ?_
  refine fm_getR (k := 20) (q := 605) hc K_Mo d_Mo_moveAgent_1 q_905 rfl (by decide) (by omega) (by decide) (by decide) (by decide) rfl (rp_program hR) ?_
  refine fm_iload_n hc d_Mo_moveAgent_4 rfl rfl ?_
  refine fm_aload_n hc d_Mo_moveAgent_5 rfl rfl ?_
  refine fm_getR (k := 20) (q := 605) hc K_Mo d_Mo_moveAgent_6 q_905 rfl (by decide) (by omega) (by decide) (by decide) (by decide) rfl (rp_program hR) ?_
  refine fm_iload_n hc d_Mo_moveAgent_9 rfl rfl ?_
  refine fm_iald (j := u) (len := 98) hc 0 d_Mo_moveAgent_10 (by decide) (by omega) (by decide) rfl (by omega) (by decide) ?_
  refine fm_iast (j := w) (len := 98) (v := M.1 605 u) hc 0 d_Mo_moveAgent_11 (by decide) (by omega) (by decide) rfl (by omega) (by decide) ?_
  refine fm_mem (M' := M) rfl (p1_id (he.1)) ?_
  refine fm_aload_n hc d_Mo_moveAgent_12 rfl rfl ?_
  refine fm_getR (k := 21) (q := 606) hc K_Mo d_Mo_moveAgent_13 q_906 rfl (by decide) (by omega) (by decide) (by decide) (by decide) rfl (rp_place hR) ?_
  refine fm_iload_n hc d_Mo_moveAgent_16 rfl rfl ?_
  refine fm_aload_n hc d_Mo_moveAgent_17 rfl rfl ?_
  refine fm_getR (k := 21) (q := 606) hc K_Mo d_Mo_moveAgent_18 q_906 rfl (by decide) (by omega) (by decide) (by decide) (by decide) rfl (rp_place hR) ?_
  refine fm_iload_n hc d_Mo_moveAgent_21 rfl rfl ?_
  refine fm_iald (j := u) (len := 98) hc 0 d_Mo_moveAgent_22 (by decide) (by omega) (by decide) rfl (by omega) (by decide) ?_
  refine fm_iast (j := w) (len := 98) (v := M.1 606 u) hc 0 d_Mo_moveAgent_23 (by decide) (by omega) (by decide) rfl (by omega) (by decide) ?_
  refine fm_mem (M' := M) rfl (p1_id (he.2.1)) ?_
  refine fm_aload_n hc d_Mo_moveAgent_24 rfl rfl ?_
  refine fm_getR (k := 22) (q := 607) hc K_Mo d_Mo_moveAgent_25 q_907 rfl (by decide) (by omega) (by decide) (by decide) (by decide) rfl (rp_fuel hR) ?_
  refine fm_iload_n hc d_Mo_moveAgent_28 rfl rfl ?_
  refine fm_aload_n hc d_Mo_moveAgent_29 rfl rfl ?_
  refine fm_getR (k := 22) (q := 607) hc K_Mo d_Mo_moveAgent_30 q_907 rfl (by decide) (by omega) (by decide) (by decide) (by decide) rfl (rp_fuel hR) ?_
  refine fm_iload_n hc d_Mo_moveAgent_33 rfl rfl ?_
  refine fm_iald (j := u) (len := 98) hc 0 d_Mo_moveAgent_34 (by decide) (by omega) (by decide) rfl (by omega) (by decide) ?_
  refine fm_iast (j := w) (len := 98) (v := M.1 607 u) hc 0 d_Mo_moveAgent_35 (by decide) (by omega) (by decide) rfl (by omega) (by decide) ?_
  refine fm_mem (M' := M) rfl (p1_id (he.2.2.1)) ?_
  refine fm_aload_n hc d_Mo_moveAgent_36 rfl rfl ?_
  refine fm_getR (k := 23) (q := 608) hc K_Mo d_Mo_moveAgent_37 q_908 rfl (by decide) (by omega) (by decide) (by decide) (by decide) rfl (rp_hops hR) ?_
  refine fm_iload_n hc d_Mo_moveAgent_40 rfl rfl ?_
  refine fm_aload_n hc d_Mo_moveAgent_41 rfl rfl ?_
  refine fm_getR (k := 23) (q := 608) hc K_Mo d_Mo_moveAgent_42 q_908 rfl (by decide) (by omega) (by decide) (by decide) (by decide) rfl (rp_hops hR) ?_
  refine fm_iload_n hc d_Mo_moveAgent_45 rfl rfl ?_
  refine fm_iald (j := u) (len := 98) hc 0 d_Mo_moveAgent_46 (by decide) (by omega) (by decide) rfl (by omega) (by decide) ?_
  refine fm_iast (j := w) (len := 98) (v := M.1 608 u) hc 0 d_Mo_moveAgent_47 (by decide) (by omega) (by decide) rfl (by omega) (by decide) ?_
  refine fm_mem (M' := M) rfl (p1_id (he.2.2.2.1)) ?_
  refine fm_aload_n hc d_Mo_moveAgent_48 rfl rfl ?_
  refine fm_getR (k := 24) (q := 609) hc K_Mo d_Mo_moveAgent_49 q_909 rfl (by decide) (by omega) (by decide) (by decide) (by decide) rfl (rp_said hR) ?_
  refine fm_iload_n hc d_Mo_moveAgent_52 rfl rfl ?_
  refine fm_aload_n hc d_Mo_moveAgent_53 rfl rfl ?_
  refine fm_getR (k := 24) (q := 609) hc K_Mo d_Mo_moveAgent_54 q_909 rfl (by decide) (by omega) (by decide) (by decide) (by decide) rfl (rp_said hR) ?_
  refine fm_iload_n hc d_Mo_moveAgent_57 rfl rfl ?_
  refine fm_iald (j := u) (len := 98) hc 0 d_Mo_moveAgent_58 (by decide) (by omega) (by decide) rfl (by omega) (by decide) ?_
  refine fm_iast (j := w) (len := 98) (v := M.1 609 u) hc 0 d_Mo_moveAgent_59 (by decide) (by omega) (by decide) rfl (by omega) (by decide) ?_
  refine fm_mem (M' := M) rfl (p1_id (he.2.2.2.2.1)) ?_
  refine fm_aload_n hc d_Mo_moveAgent_60 rfl rfl ?_
  refine fm_getR (k := 25) (q := 610) hc K_Mo d_Mo_moveAgent_61 q_910 rfl (by decide) (by omega) (by decide) (by decide) (by decide) rfl (rp_wait hR) ?_
  refine fm_iload_n hc d_Mo_moveAgent_64 rfl rfl ?_
  refine fm_aload_n hc d_Mo_moveAgent_65 rfl rfl ?_
  refine fm_getR (k := 25) (q := 610) hc K_Mo d_Mo_moveAgent_66 q_910 rfl (by decide) (by omega) (by decide) (by decide) (by decide) rfl (rp_wait hR) ?_
  refine fm_iload_n hc d_Mo_moveAgent_69 rfl rfl ?_
  refine fm_iald (j := u) (len := 98) hc 0 d_Mo_moveAgent_70 (by decide) (by omega) (by decide) rfl (by omega) (by decide) ?_
  refine fm_iast (j := w) (len := 98) (v := M.1 610 u) hc 0 d_Mo_moveAgent_71 (by decide) (by omega) (by decide) rfl (by omega) (by decide) ?_
  refine fm_mem (M' := M) rfl (p1_id (he.2.2.2.2.2.1)) ?_
  refine fm_aload_n hc d_Mo_moveAgent_72 rfl rfl ?_
  refine fm_getR (k := 26) (q := 611) hc K_Mo d_Mo_moveAgent_73 q_911 rfl (by decide) (by omega) (by decide) (by decide) (by decide) rfl (rp_cloned hR) ?_
  refine fm_iload_n hc d_Mo_moveAgent_76 rfl rfl ?_
  refine fm_aload_n hc d_Mo_moveAgent_77 rfl rfl ?_
  refine fm_getR (k := 26) (q := 611) hc K_Mo d_Mo_moveAgent_78 q_911 rfl (by decide) (by omega) (by decide) (by decide) (by decide) rfl (rp_cloned hR) ?_
  refine fm_iload_n hc d_Mo_moveAgent_81 rfl rfl ?_
  refine fm_zald (j := u) (len := 98) hc 1 d_Mo_moveAgent_82 (by decide) (by omega) (by decide) rfl (by omega) (by decide) ?_
  refine fm_zast (j := w) (len := 98) (v := M.1 611 u) hc 1 d_Mo_moveAgent_83 (by decide) (by omega) (by decide) rfl (by omega) (by decide) ?_
  refine fm_mem (M' := M) rfl (p1_id (he.2.2.2.2.2.2.1)) ?_
  refine fm_aload_n hc d_Mo_moveAgent_84 rfl rfl ?_
  refine fm_getR (k := 27) (q := 612) hc K_Mo d_Mo_moveAgent_85 q_912 rfl (by decide) (by omega) (by decide) (by decide) (by decide) rfl (rp_size hR) ?_
  refine fm_iload_n hc d_Mo_moveAgent_88 rfl rfl ?_
  refine fm_aload_n hc d_Mo_moveAgent_89 rfl rfl ?_
  refine fm_getR (k := 27) (q := 612) hc K_Mo d_Mo_moveAgent_90 q_912 rfl (by decide) (by omega) (by decide) (by decide) (by decide) rfl (rp_size hR) ?_
  refine fm_iload_n hc d_Mo_moveAgent_93 rfl rfl ?_
  refine fm_iald (j := u) (len := 98) hc 0 d_Mo_moveAgent_94 (by decide) (by omega) (by decide) rfl (by omega) (by decide) ?_
  refine fm_iast (j := w) (len := 98) (v := M.1 612 u) hc 0 d_Mo_moveAgent_95 (by decide) (by omega) (by decide) rfl (by omega) (by decide) ?_
  refine fm_mem (M' := M) rfl (p1_id (he.2.2.2.2.2.2.2.1)) ?_
  refine fm_aload_n hc d_Mo_moveAgent_96 rfl rfl ?_
  refine fm_getR (k := 29) (q := 614) hc K_Mo d_Mo_moveAgent_97 q_914 rfl (by decide) (by omega) (by decide) (by decide) (by decide) rfl (rp_pairs hR) ?_
  refine fm_iload_n hc d_Mo_moveAgent_100 rfl rfl ?_
  refine fm_aload_n hc d_Mo_moveAgent_101 rfl rfl ?_
  refine fm_getR (k := 29) (q := 614) hc K_Mo d_Mo_moveAgent_102 q_914 rfl (by decide) (by omega) (by decide) (by decide) (by decide) rfl (rp_pairs hR) ?_
  refine fm_iload_n hc d_Mo_moveAgent_105 rfl rfl ?_
  refine fm_iald (j := u) (len := 98) hc 0 d_Mo_moveAgent_106 (by decide) (by omega) (by decide) rfl (by omega) (by decide) ?_
  refine fm_iast (j := w) (len := 98) (v := M.1 614 u) hc 0 d_Mo_moveAgent_107 (by decide) (by omega) (by decide) rfl (by omega) (by decide) ?_
  refine fm_mem (M' := M) rfl (p1_id (he.2.2.2.2.2.2.2.2.1)) ?_
  refine fm_iconst (v := nI 0) hc d_Mo_moveAgent_108 rfl ?_
  refine fm_istore_n (lv' := [(3, .int (nI 0)), (0, .ref 586), (1, .int (nI u)), (2, .int (nI w))]) hc d_Mo_moveAgent_109 rfl (by decide) rfl ?_
  refine fm_loop0 (N := 6) (lv := fun k => [(3, .int (nI k)), (0, .ref 586), (1, .int (nI u)), (2, .int (nI w))]) (fun k hk ih6 => ?_) ?_
  · refine fm_iload_n hc d_Mo_moveAgent_110 rfl rfl ?_
    refine fm_bipush (v := nI 6) hc d_Mo_moveAgent_111 rfl ?_
    refine fm_icmp_ge (tgt := 144) hc d_Mo_moveAgent_113 rfl (fun g => absurd g (hnle (a := 6) (c := k) hk (by omega))) (fun _ => ?_)
    refine fm_aload_n hc d_Mo_moveAgent_116 rfl rfl ?_
    refine fm_getR (k := 28) (q := 613) hc K_Mo d_Mo_moveAgent_117 q_913 rfl (by decide) (by omega) (by decide) (by decide) (by decide) rfl (rp_stack hR) ?_
    refine fm_bipush (v := nI 6) hc d_Mo_moveAgent_120 rfl ?_
    refine fm_iload_n hc d_Mo_moveAgent_122 rfl rfl ?_
    refine fm_imul hc d_Mo_moveAgent_123 ?_
    refine fm_top (congrArg Value.int (pk_mul 6 w)) ?_
    refine fm_iload_n hc d_Mo_moveAgent_124 rfl rfl ?_
    refine fm_iadd hc d_Mo_moveAgent_125 ?_
    refine fm_top (congrArg Value.int (nI_add (6 * w) k)) ?_
    refine fm_aload_n hc d_Mo_moveAgent_126 rfl rfl ?_
    refine fm_getR (k := 28) (q := 613) hc K_Mo d_Mo_moveAgent_127 q_913 rfl (by decide) (by omega) (by decide) (by decide) (by decide) rfl (rp_stack hR) ?_
    refine fm_bipush (v := nI 6) hc d_Mo_moveAgent_130 rfl ?_
    refine fm_iload_n hc d_Mo_moveAgent_132 rfl rfl ?_
    refine fm_imul hc d_Mo_moveAgent_133 ?_
    refine fm_top (congrArg Value.int (pk_mul 6 u)) ?_
    refine fm_iload_n hc d_Mo_moveAgent_134 rfl rfl ?_
    refine fm_iadd hc d_Mo_moveAgent_135 ?_
    refine fm_top (congrArg Value.int (nI_add (6 * u) k)) ?_
    refine fm_lald (j := (6 * u) + k) (len := 588) hc 3 d_Mo_moveAgent_136 (by decide) (by omega) (by decide) rfl (by omega) (by decide) ?_
    refine fm_last (j := (6 * w) + k) (len := 588) (v := M.2.1 613 ((6 * u) + k)) hc 3 d_Mo_moveAgent_137 (by decide) (by omega) (by decide) rfl (by omega) (by decide) ?_
    refine fm_mem (M' := M) rfl (p2_id (he.2.2.2.2.2.2.2.2.2.1 k hk)) ?_
    refine fm_iinc (v := nI (k + 1)) (lv' := [(3, .int (nI (k + 1))), (0, .ref 586), (1, .int (nI u)), (2, .int (nI w))]) hc d_Mo_moveAgent_138 rfl (nI_1 k) (by decide) rfl ?_
    refine fm_goto (tgt := 110) hc d_Mo_moveAgent_141 rfl ?_
    exact ih6
  · refine fm_iload_n hc d_Mo_moveAgent_110 rfl rfl ?_
    refine fm_bipush (v := nI 6) hc d_Mo_moveAgent_111 rfl ?_
    refine fm_icmp_ge (tgt := 144) hc d_Mo_moveAgent_113 rfl (fun _ => ?_) (fun g => absurd (by decide) g)
    refine fm_iconst (v := nI 0) hc d_Mo_moveAgent_144 rfl ?_
    refine fm_istore_n (lv' := [(3, .int (nI 0)), (0, .ref 586), (1, .int (nI u)), (2, .int (nI w))]) hc d_Mo_moveAgent_145 rfl (by decide) rfl ?_
    refine fm_loop0 (N := 9) (lv := fun k => [(3, .int (nI k)), (0, .ref 586), (1, .int (nI u)), (2, .int (nI w))]) (fun k hk ih7 => ?_) ?_
    · refine fm_iload_n hc d_Mo_moveAgent_146 rfl rfl ?_
      refine fm_bipush (v := nI 9) hc d_Mo_moveAgent_147 rfl ?_
      refine fm_icmp_ge (tgt := 202) hc d_Mo_moveAgent_149 rfl (fun g => absurd g (hnle (a := 9) (c := k) hk (by omega))) (fun _ => ?_)
      refine fm_aload_n hc d_Mo_moveAgent_152 rfl rfl ?_
      refine fm_getR (k := 30) (q := 615) hc K_Mo d_Mo_moveAgent_153 q_915 rfl (by decide) (by omega) (by decide) (by decide) (by decide) rfl (rp_first hR) ?_
      refine fm_bipush (v := nI 9) hc d_Mo_moveAgent_156 rfl ?_
      refine fm_iload_n hc d_Mo_moveAgent_158 rfl rfl ?_
      refine fm_imul hc d_Mo_moveAgent_159 ?_
      refine fm_top (congrArg Value.int (pk_mul 9 w)) ?_
      refine fm_iload_n hc d_Mo_moveAgent_160 rfl rfl ?_
      refine fm_iadd hc d_Mo_moveAgent_161 ?_
      refine fm_top (congrArg Value.int (nI_add (9 * w) k)) ?_
      refine fm_aload_n hc d_Mo_moveAgent_162 rfl rfl ?_
      refine fm_getR (k := 30) (q := 615) hc K_Mo d_Mo_moveAgent_163 q_915 rfl (by decide) (by omega) (by decide) (by decide) (by decide) rfl (rp_first hR) ?_
      refine fm_bipush (v := nI 9) hc d_Mo_moveAgent_166 rfl ?_
      refine fm_iload_n hc d_Mo_moveAgent_168 rfl rfl ?_
      refine fm_imul hc d_Mo_moveAgent_169 ?_
      refine fm_top (congrArg Value.int (pk_mul 9 u)) ?_
      refine fm_iload_n hc d_Mo_moveAgent_170 rfl rfl ?_
      refine fm_iadd hc d_Mo_moveAgent_171 ?_
      refine fm_top (congrArg Value.int (nI_add (9 * u) k)) ?_
      refine fm_lald (j := (9 * u) + k) (len := 882) hc 3 d_Mo_moveAgent_172 (by decide) (by omega) (by decide) rfl (by omega) (by decide) ?_
      refine fm_last (j := (9 * w) + k) (len := 882) (v := M.2.1 615 ((9 * u) + k)) hc 3 d_Mo_moveAgent_173 (by decide) (by omega) (by decide) rfl (by omega) (by decide) ?_
      refine fm_mem (M' := M) rfl (p2_id (he.2.2.2.2.2.2.2.2.2.2.1 k hk)) ?_
      refine fm_aload_n hc d_Mo_moveAgent_174 rfl rfl ?_
      refine fm_getR (k := 31) (q := 616) hc K_Mo d_Mo_moveAgent_175 q_916 rfl (by decide) (by omega) (by decide) (by decide) (by decide) rfl (rp_second hR) ?_
      refine fm_bipush (v := nI 9) hc d_Mo_moveAgent_178 rfl ?_
      refine fm_iload_n hc d_Mo_moveAgent_180 rfl rfl ?_
      refine fm_imul hc d_Mo_moveAgent_181 ?_
      refine fm_top (congrArg Value.int (pk_mul 9 w)) ?_
      refine fm_iload_n hc d_Mo_moveAgent_182 rfl rfl ?_
      refine fm_iadd hc d_Mo_moveAgent_183 ?_
      refine fm_top (congrArg Value.int (nI_add (9 * w) k)) ?_
      refine fm_aload_n hc d_Mo_moveAgent_184 rfl rfl ?_
      refine fm_getR (k := 31) (q := 616) hc K_Mo d_Mo_moveAgent_185 q_916 rfl (by decide) (by omega) (by decide) (by decide) (by decide) rfl (rp_second hR) ?_
      refine fm_bipush (v := nI 9) hc d_Mo_moveAgent_188 rfl ?_
      refine fm_iload_n hc d_Mo_moveAgent_190 rfl rfl ?_
      refine fm_imul hc d_Mo_moveAgent_191 ?_
      refine fm_top (congrArg Value.int (pk_mul 9 u)) ?_
      refine fm_iload_n hc d_Mo_moveAgent_192 rfl rfl ?_
      refine fm_iadd hc d_Mo_moveAgent_193 ?_
      refine fm_top (congrArg Value.int (nI_add (9 * u) k)) ?_
      refine fm_lald (j := (9 * u) + k) (len := 882) hc 3 d_Mo_moveAgent_194 (by decide) (by omega) (by decide) rfl (by omega) (by decide) ?_
      refine fm_last (j := (9 * w) + k) (len := 882) (v := M.2.1 616 ((9 * u) + k)) hc 3 d_Mo_moveAgent_195 (by decide) (by omega) (by decide) rfl (by omega) (by decide) ?_
      refine fm_mem (M' := M) rfl (p2_id (he.2.2.2.2.2.2.2.2.2.2.2 k hk)) ?_
      refine fm_iinc (v := nI (k + 1)) (lv' := [(3, .int (nI (k + 1))), (0, .ref 586), (1, .int (nI u)), (2, .int (nI w))]) hc d_Mo_moveAgent_196 rfl (nI_1 k) (by decide) rfl ?_
      refine fm_goto (tgt := 146) hc d_Mo_moveAgent_199 rfl ?_
      exact ih7
    · refine fm_iload_n hc d_Mo_moveAgent_146 rfl rfl ?_
      refine fm_bipush (v := nI 9) hc d_Mo_moveAgent_147 rfl ?_
      refine fm_icmp_ge (tgt := 202) hc d_Mo_moveAgent_149 rfl (fun _ => ?_) (fun g => absurd (by decide) g)
      exact fm_vret hc hr d_Mo_moveAgent_202 (Nat.le_refl _) (Nat.le_refl _) ⟨rfl, rfl, rfl⟩
/-- memories u and w of the reference are alike -/
def fm_eqM (M : fm_M) (u w : Nat) : Prop := ∀ a, a < 8 → fm_eqA M (8 * u + a) (8 * w + a) ∧ M.1 597 (8 * w + a) = M.1 597 (8 * u + a) ∧ M.1 598 (8 * w + a) = M.1 598 (8 * u + a) ∧ M.1 599 (8 * w + a) = M.1 599 (8 * u + a) ∧ M.1 600 (8 * w + a) = M.1 600 (8 * u + a) ∧ M.1 601 (8 * w + a) = M.1 601 (8 * u + a) ∧ M.1 602 (8 * w + a) = M.1 602 (8 * u + a) ∧ (∀ k, k < 16 → M.1 603 (16 * (8 * w + a) + k) = M.1 603 (16 * (8 * u + a) + k))
theorem c_moveMemory0 {l : Launch} {b : Nat} {x : Nat → Nat} {D : va_G} {dA : Nat → ClassId} {u w : Nat} {n : Nat} {M : fm_M} (hn : 629 ≤ n) (hR : fm_RP M) (hu : u < 12) (hw : w < 12) (he : fm_eqM M u w) : Met l y_Mo_moveMemory (Cond.code y_Mo_moveMemory b_Mo_moveMemory 7 none :: fm_T0) ({ frames := 1, cells := 0, slots := 0, locals := 30 }) (fm_Pc fm_lay fm_nf fm_fk fm_cl b x D dA (fm_tys dA) (fm_EX b x) false [.ref 586, .int (nI u), .int (nI w)] n M) (fm_Qc fm_lay fm_nf fm_fk fm_cl b x D dA (fun r n' M' => r = none ∧ n' = n ∧ M' = M)) 0 0 (fm_A b) := by
  refine fm_enter (by decide) (Nat.le_of_ble_eq_true rfl) ?_
  intro p e s m args below meth c hc hr hnm hex htg
  refine fm_iconst (v := nI 0) hc d_Mo_moveMemory_0 rfl ?_
  refine fm_istore_n (lv' := [(3, .int (nI 0)), (0, .ref 586), (1, .int (nI u)), (2, .int (nI w))]) hc d_Mo_moveMemory_1 rfl (by decide) rfl ?_
  refine fm_loop0 (N := 8) (lv := fun k => [(3, .int (nI k)), (0, .ref 586), (1, .int (nI u)), (2, .int (nI w))]) (fun k hk ih8 => ?_) ?_
  · refine fm_iload_n hc d_Mo_moveMemory_2 rfl rfl ?_
    refine fm_bipush (v := nI 8) hc d_Mo_moveMemory_3 rfl ?_
    refine fm_icmp_ge (tgt := 164) hc d_Mo_moveMemory_5 rfl (fun g => absurd g (hnle (a := 8) (c := k) hk (by omega))) (fun _ => ?_)
    refine fm_bipush (v := nI 8) hc d_Mo_moveMemory_8 rfl ?_
    refine fm_iload_n hc d_Mo_moveMemory_10 rfl rfl ?_
    refine fm_imul hc d_Mo_moveMemory_11 ?_
    refine fm_top (congrArg Value.int (pk_mul 8 u)) ?_
    refine fm_iload_n hc d_Mo_moveMemory_12 rfl rfl ?_
    refine fm_iadd hc d_Mo_moveMemory_13 ?_
    refine fm_top (congrArg Value.int (nI_add (8 * u) k)) ?_
    refine fm_istore (lv' := [(4, .int (nI ((8 * u) + k))), (3, .int (nI k)), (0, .ref 586), (1, .int (nI u)), (2, .int (nI w))]) hc d_Mo_moveMemory_14 (by decide) rfl ?_
    refine fm_bipush (v := nI 8) hc d_Mo_moveMemory_16 rfl ?_
    refine fm_iload_n hc d_Mo_moveMemory_18 rfl rfl ?_
    refine fm_imul hc d_Mo_moveMemory_19 ?_
    refine fm_top (congrArg Value.int (pk_mul 8 w)) ?_
    refine fm_iload_n hc d_Mo_moveMemory_20 rfl rfl ?_
    refine fm_iadd hc d_Mo_moveMemory_21 ?_
    refine fm_top (congrArg Value.int (nI_add (8 * w) k)) ?_
    refine fm_istore (lv' := [(5, .int (nI ((8 * w) + k))), (4, .int (nI ((8 * u) + k))), (3, .int (nI k)), (0, .ref 586), (1, .int (nI u)), (2, .int (nI w))]) hc d_Mo_moveMemory_22 (by decide) rfl ?_
    refine fm_aload_n hc d_Mo_moveMemory_24 rfl rfl ?_
    refine fm_iload hc d_Mo_moveMemory_25 rfl ?_
    refine fm_iload hc d_Mo_moveMemory_27 rfl ?_
    refine fm_callV (av := [.int (nI ((8 * u) + k)), .int (nI ((8 * w) + k))]) (rest := []) (ob := 586) (ci := 11) (r0 := ("AgentNetModel", F_Mo, 51)) (y := y_Mo_moveAgent) (bytes := b_Mo_moveAgent) hc fm_T0_good (fm_EX_st b x) hex q_1150 q_13 q_1147 q_1149 qs_Mo_moveAgent pd_Mo_moveAgent (by decide) (by omega) (by decide) (by decide) rfl rfl (c_moveAgent0 hn hR (by omega) (by omega) (he k hk).1) ⟨rfl, rfl, Nat.le_of_ble_eq_true rfl, Nat.le_of_ble_eq_true rfl⟩ ⟨Nat.le_of_ble_eq_true rfl, Nat.le_of_ble_eq_true rfl⟩ d_Mo_moveMemory_29 (Nat.le_of_ble_eq_true rfl) (fun r n2 M2 hp => ?_)
    obtain ⟨rfl, hq1, hq2⟩ := hp
    replace hq1 := hq1.symm
    replace hq2 := hq2.symm
    subst hq1 hq2
    refine fm_cnt (z' := (0, 0)) rfl (fm_st (st' := []) rfl ?_)
    refine fm_aload_n hc d_Mo_moveMemory_32 rfl rfl ?_
    refine fm_getR (k := 12) (q := 597) hc K_Mo d_Mo_moveMemory_33 q_897 rfl (by decide) (by omega) (by decide) (by decide) (by decide) rfl (rp_slot hR) ?_
    refine fm_iload hc d_Mo_moveMemory_36 rfl ?_
    refine fm_aload_n hc d_Mo_moveMemory_38 rfl rfl ?_
    refine fm_getR (k := 12) (q := 597) hc K_Mo d_Mo_moveMemory_39 q_897 rfl (by decide) (by omega) (by decide) (by decide) (by decide) rfl (rp_slot hR) ?_
    refine fm_iload hc d_Mo_moveMemory_42 rfl ?_
    refine fm_iald (j := (8 * u) + k) (len := 96) hc 0 d_Mo_moveMemory_44 (by decide) (by omega) (by decide) rfl (by omega) (by decide) ?_
    refine fm_iast (j := (8 * w) + k) (len := 96) (v := M.1 597 ((8 * u) + k)) hc 0 d_Mo_moveMemory_45 (by decide) (by omega) (by decide) rfl (by omega) (by decide) ?_
    refine fm_mem (M' := M) rfl (p1_id (he k hk).2.1) ?_
    refine fm_aload_n hc d_Mo_moveMemory_46 rfl rfl ?_
    refine fm_getR (k := 13) (q := 598) hc K_Mo d_Mo_moveMemory_47 q_898 rfl (by decide) (by omega) (by decide) (by decide) (by decide) rfl (rp_goal hR) ?_
    refine fm_iload hc d_Mo_moveMemory_50 rfl ?_
    refine fm_aload_n hc d_Mo_moveMemory_52 rfl rfl ?_
    refine fm_getR (k := 13) (q := 598) hc K_Mo d_Mo_moveMemory_53 q_898 rfl (by decide) (by omega) (by decide) (by decide) (by decide) rfl (rp_goal hR) ?_
    refine fm_iload hc d_Mo_moveMemory_56 rfl ?_
    refine fm_iald (j := (8 * u) + k) (len := 96) hc 0 d_Mo_moveMemory_58 (by decide) (by omega) (by decide) rfl (by omega) (by decide) ?_
    refine fm_iast (j := (8 * w) + k) (len := 96) (v := M.1 598 ((8 * u) + k)) hc 0 d_Mo_moveMemory_59 (by decide) (by omega) (by decide) rfl (by omega) (by decide) ?_
    refine fm_mem (M' := M) rfl (p1_id (he k hk).2.2.1) ?_
    refine fm_aload_n hc d_Mo_moveMemory_60 rfl rfl ?_
    refine fm_getR (k := 14) (q := 599) hc K_Mo d_Mo_moveMemory_61 q_899 rfl (by decide) (by omega) (by decide) (by decide) (by decide) rfl (rp_known hR) ?_
    refine fm_iload hc d_Mo_moveMemory_64 rfl ?_
    refine fm_aload_n hc d_Mo_moveMemory_66 rfl rfl ?_
    refine fm_getR (k := 14) (q := 599) hc K_Mo d_Mo_moveMemory_67 q_899 rfl (by decide) (by omega) (by decide) (by decide) (by decide) rfl (rp_known hR) ?_
    refine fm_iload hc d_Mo_moveMemory_70 rfl ?_
    refine fm_iald (j := (8 * u) + k) (len := 96) hc 0 d_Mo_moveMemory_72 (by decide) (by omega) (by decide) rfl (by omega) (by decide) ?_
    refine fm_iast (j := (8 * w) + k) (len := 96) (v := M.1 599 ((8 * u) + k)) hc 0 d_Mo_moveMemory_73 (by decide) (by omega) (by decide) rfl (by omega) (by decide) ?_
    refine fm_mem (M' := M) rfl (p1_id (he k hk).2.2.2.1) ?_
    refine fm_aload_n hc d_Mo_moveMemory_74 rfl rfl ?_
    refine fm_getR (k := 15) (q := 600) hc K_Mo d_Mo_moveMemory_75 q_900 rfl (by decide) (by omega) (by decide) (by decide) (by decide) rfl (rp_owed hR) ?_
    refine fm_iload hc d_Mo_moveMemory_78 rfl ?_
    refine fm_aload_n hc d_Mo_moveMemory_80 rfl rfl ?_
    refine fm_getR (k := 15) (q := 600) hc K_Mo d_Mo_moveMemory_81 q_900 rfl (by decide) (by omega) (by decide) (by decide) (by decide) rfl (rp_owed hR) ?_
    refine fm_iload hc d_Mo_moveMemory_84 rfl ?_
    refine fm_iald (j := (8 * u) + k) (len := 96) hc 0 d_Mo_moveMemory_86 (by decide) (by omega) (by decide) rfl (by omega) (by decide) ?_
    refine fm_iast (j := (8 * w) + k) (len := 96) (v := M.1 600 ((8 * u) + k)) hc 0 d_Mo_moveMemory_87 (by decide) (by omega) (by decide) rfl (by omega) (by decide) ?_
    refine fm_mem (M' := M) rfl (p1_id (he k hk).2.2.2.2.1) ?_
    refine fm_aload_n hc d_Mo_moveMemory_88 rfl rfl ?_
    refine fm_getR (k := 16) (q := 601) hc K_Mo d_Mo_moveMemory_89 q_901 rfl (by decide) (by omega) (by decide) (by decide) (by decide) rfl (rp_note hR) ?_
    refine fm_iload hc d_Mo_moveMemory_92 rfl ?_
    refine fm_aload_n hc d_Mo_moveMemory_94 rfl rfl ?_
    refine fm_getR (k := 16) (q := 601) hc K_Mo d_Mo_moveMemory_95 q_901 rfl (by decide) (by omega) (by decide) (by decide) (by decide) rfl (rp_note hR) ?_
    refine fm_iload hc d_Mo_moveMemory_98 rfl ?_
    refine fm_iald (j := (8 * u) + k) (len := 96) hc 0 d_Mo_moveMemory_100 (by decide) (by omega) (by decide) rfl (by omega) (by decide) ?_
    refine fm_iast (j := (8 * w) + k) (len := 96) (v := M.1 601 ((8 * u) + k)) hc 0 d_Mo_moveMemory_101 (by decide) (by omega) (by decide) rfl (by omega) (by decide) ?_
    refine fm_mem (M' := M) rfl (p1_id (he k hk).2.2.2.2.2.1) ?_
    refine fm_aload_n hc d_Mo_moveMemory_102 rfl rfl ?_
    refine fm_getR (k := 17) (q := 602) hc K_Mo d_Mo_moveMemory_103 q_902 rfl (by decide) (by omega) (by decide) (by decide) (by decide) rfl (rp_told hR) ?_
    refine fm_iload hc d_Mo_moveMemory_106 rfl ?_
    refine fm_aload_n hc d_Mo_moveMemory_108 rfl rfl ?_
    refine fm_getR (k := 17) (q := 602) hc K_Mo d_Mo_moveMemory_109 q_902 rfl (by decide) (by omega) (by decide) (by decide) (by decide) rfl (rp_told hR) ?_
    refine fm_iload hc d_Mo_moveMemory_112 rfl ?_
    refine fm_iald (j := (8 * u) + k) (len := 96) hc 0 d_Mo_moveMemory_114 (by decide) (by omega) (by decide) rfl (by omega) (by decide) ?_
    refine fm_iast (j := (8 * w) + k) (len := 96) (v := M.1 602 ((8 * u) + k)) hc 0 d_Mo_moveMemory_115 (by decide) (by omega) (by decide) rfl (by omega) (by decide) ?_
    refine fm_mem (M' := M) rfl (p1_id (he k hk).2.2.2.2.2.2.1) ?_
    refine fm_iconst (v := nI 0) hc d_Mo_moveMemory_116 rfl ?_
    refine fm_istore (lv' := [(6, .int (nI 0)), (5, .int (nI ((8 * w) + k))), (4, .int (nI ((8 * u) + k))), (3, .int (nI k)), (0, .ref 586), (1, .int (nI u)), (2, .int (nI w))]) hc d_Mo_moveMemory_117 (by decide) rfl ?_
    refine fm_loop0 (N := 16) (lv := fun q => [(6, .int (nI q)), (5, .int (nI ((8 * w) + k))), (4, .int (nI ((8 * u) + k))), (3, .int (nI k)), (0, .ref 586), (1, .int (nI u)), (2, .int (nI w))]) (fun q hq ih9 => ?_) ?_
    · refine fm_iload hc d_Mo_moveMemory_119 rfl ?_
      refine fm_bipush (v := nI 16) hc d_Mo_moveMemory_121 rfl ?_
      refine fm_icmp_ge (tgt := 158) hc d_Mo_moveMemory_123 rfl (fun g => absurd g (hnle (a := 16) (c := q) hq (by omega))) (fun _ => ?_)
      refine fm_aload_n hc d_Mo_moveMemory_126 rfl rfl ?_
      refine fm_getR (k := 18) (q := 603) hc K_Mo d_Mo_moveMemory_127 q_903 rfl (by decide) (by omega) (by decide) (by decide) (by decide) rfl (rp_words hR) ?_
      refine fm_bipush (v := nI 16) hc d_Mo_moveMemory_130 rfl ?_
      refine fm_iload hc d_Mo_moveMemory_132 rfl ?_
      refine fm_imul hc d_Mo_moveMemory_134 ?_
      refine fm_top (congrArg Value.int (pk_mul 16 ((8 * w) + k))) ?_
      refine fm_iload hc d_Mo_moveMemory_135 rfl ?_
      refine fm_iadd hc d_Mo_moveMemory_137 ?_
      refine fm_top (congrArg Value.int (nI_add (16 * ((8 * w) + k)) q)) ?_
      refine fm_aload_n hc d_Mo_moveMemory_138 rfl rfl ?_
      refine fm_getR (k := 18) (q := 603) hc K_Mo d_Mo_moveMemory_139 q_903 rfl (by decide) (by omega) (by decide) (by decide) (by decide) rfl (rp_words hR) ?_
      refine fm_bipush (v := nI 16) hc d_Mo_moveMemory_142 rfl ?_
      refine fm_iload hc d_Mo_moveMemory_144 rfl ?_
      refine fm_imul hc d_Mo_moveMemory_146 ?_
      refine fm_top (congrArg Value.int (pk_mul 16 ((8 * u) + k))) ?_
      refine fm_iload hc d_Mo_moveMemory_147 rfl ?_
      refine fm_iadd hc d_Mo_moveMemory_149 ?_
      refine fm_top (congrArg Value.int (nI_add (16 * ((8 * u) + k)) q)) ?_
      refine fm_iald (j := (16 * ((8 * u) + k)) + q) (len := 1536) hc 0 d_Mo_moveMemory_150 (by decide) (by omega) (by decide) rfl (by omega) (by decide) ?_
      refine fm_iast (j := (16 * ((8 * w) + k)) + q) (len := 1536) (v := M.1 603 ((16 * ((8 * u) + k)) + q)) hc 0 d_Mo_moveMemory_151 (by decide) (by omega) (by decide) rfl (by omega) (by decide) ?_
      refine fm_mem (M' := M) rfl (p1_id ((he k hk).2.2.2.2.2.2.2 q hq)) ?_
      refine fm_iinc (v := nI (q + 1)) (lv' := [(6, .int (nI (q + 1))), (5, .int (nI ((8 * w) + k))), (4, .int (nI ((8 * u) + k))), (3, .int (nI k)), (0, .ref 586), (1, .int (nI u)), (2, .int (nI w))]) hc d_Mo_moveMemory_152 rfl (nI_1 q) (by decide) rfl ?_
      refine fm_goto (tgt := 119) hc d_Mo_moveMemory_155 rfl ?_
      exact ih9
    · refine fm_iload hc d_Mo_moveMemory_119 rfl ?_
      refine fm_bipush (v := nI 16) hc d_Mo_moveMemory_121 rfl ?_
      refine fm_icmp_ge (tgt := 158) hc d_Mo_moveMemory_123 rfl (fun _ => ?_) (fun g => absurd (by decide) g)
      refine fm_iinc (v := nI (k + 1)) (lv' := [(3, .int (nI (k + 1))), (6, .int (nI 16)), (5, .int (nI ((8 * w) + k))), (4, .int (nI ((8 * u) + k))), (0, .ref 586), (1, .int (nI u)), (2, .int (nI w))]) hc d_Mo_moveMemory_158 rfl (nI_1 k) (by decide) rfl ?_
      refine fm_goto (tgt := 2) hc d_Mo_moveMemory_161 rfl ?_
      refine fm_dropl (lv' := [(3, .int (nI (k + 1))), (0, .ref 586), (1, .int (nI u)), (2, .int (nI w))]) (by simp) ?_
      exact ih8
  · refine fm_iload_n hc d_Mo_moveMemory_2 rfl rfl ?_
    refine fm_bipush (v := nI 8) hc d_Mo_moveMemory_3 rfl ?_
    refine fm_icmp_ge (tgt := 164) hc d_Mo_moveMemory_5 rfl (fun _ => ?_) (fun g => absurd (by decide) g)
    exact fm_vret hc hr d_Mo_moveMemory_164 (Nat.le_refl _) (Nat.le_refl _) ⟨rfl, rfl, rfl⟩
theorem r_checkpoint_ok0 {l : Launch} {b : Nat} {x : Nat → Nat} {D : va_G} {dA : Nat → ClassId} {j : Nat} {n : Nat} {M : fm_M} (hn : 629 ≤ n) (hR : fm_RP M) (hj : j < 4) (hz : ∀ i, i < 8 → M.1 597 (24 * j + i) = 0) (hu : ¬ M.1 595 j = 0) (hl : M.1 596 j ≤ 0) (he : fm_eqM M (3 * j) (3 * j + 1)) : Met l y_Mo_checkpoint (Cond.code y_Mo_checkpoint b_Mo_checkpoint 3 (some .int) :: fm_T0) ({ frames := 2, cells := 0, slots := 0, locals := 60 }) (fm_Pc fm_lay fm_nf fm_fk fm_cl b x D dA (fm_tys dA) (fm_EX b x) false [.ref 586, .int (nI j)] n M) (fm_Qc fm_lay fm_nf fm_fk fm_cl b x D dA (fun r n' M' => r = some (.int (nI 1)) ∧ n' = n ∧ M' = fm_put1 (fm_put1 M 586 0 (nI 0)) 596 j (nI 1))) 0 0 (fm_A b) := by
  refine fm_enter (by decide) (Nat.le_of_ble_eq_true rfl) ?_
  intro p e s m args below meth c hc hr hnm hex htg
  refine fm_aload_n hc d_Mo_checkpoint_0 rfl rfl ?_
  refine fm_aload_n hc d_Mo_checkpoint_1 rfl rfl ?_
  refine fm_iload_n hc d_Mo_checkpoint_2 rfl rfl ?_
  refine fm_iconst (v := nI 1) hc d_Mo_checkpoint_3 rfl ?_
  refine fm_callV (av := [.int (nI j), .int (nI 1)]) (rest := [.ref 586]) (ob := 586) (ci := 11) (r0 := ("AgentNetModel", F_Mo, 51)) (y := y_Mo_wrongAt) (bytes := b_Mo_wrongAt) hc fm_T0_good (fm_EX_st b x) hex q_1078 q_13 q_1075 q_1077 qs_Mo_wrongAt pd_Mo_wrongAt (by decide) (by omega) (by decide) (by decide) rfl rfl (c_wrongAt_fine hn hR hj hu) ⟨rfl, rfl, Nat.le_of_ble_eq_true rfl, Nat.le_of_ble_eq_true rfl⟩ ⟨Nat.le_of_ble_eq_true rfl, Nat.le_of_ble_eq_true rfl⟩ d_Mo_checkpoint_4 (Nat.le_of_ble_eq_true rfl) (fun r n2 M2 hp => ?_)
  obtain ⟨rfl, hq1, hq2⟩ := hp
  replace hq1 := hq1.symm
  replace hq2 := hq2.symm
  subst hq1 hq2
  refine fm_cnt (z' := (0, 0)) rfl (fm_st (st' := [.int (nI 0), .ref 586]) rfl ?_)
  refine fm_putI (k := 0) (v := nI 0) hc K_Mo d_Mo_checkpoint_7 q_885 rfl (by decide) (by omega) (by decide) (by decide) (by decide) rfl rfl rfl rfl ?_
  refine fm_aload_n hc d_Mo_checkpoint_10 rfl rfl ?_
  refine fm_aload_n hc d_Mo_checkpoint_11 rfl rfl ?_
  refine fm_getI (k := 0) hc K_Mo d_Mo_checkpoint_12 q_885 rfl (by decide) (by omega) (by decide) (by decide) (by decide) rfl ?_
  refine fm_top (congrArg Value.int (p1_same _ _ _ _)) ?_
  refine fm_if_ne (tgt := 31) hc d_Mo_checkpoint_15 rfl (fun g => absurd (by decide) g) (fun _ => ?_)
  refine fm_aload_n hc d_Mo_checkpoint_18 rfl rfl ?_
  refine fm_getR (k := 11) (q := 596) hc K_Mo d_Mo_checkpoint_19 q_896 rfl (by decide) (by omega) (by decide) (by decide) (by decide) rfl (rp_left hR) ?_
  refine fm_iload_n hc d_Mo_checkpoint_22 rfl rfl ?_
  refine fm_iald (j := j) (len := 4) hc 0 d_Mo_checkpoint_23 (by decide) (by omega) (by decide) rfl (by omega) (by decide) ?_
  refine fm_if_le (tgt := 31) hc d_Mo_checkpoint_24 rfl (fun _ => ?_) (fun g => absurd hl g)
  refine fm_aload_n hc d_Mo_checkpoint_31 rfl rfl ?_
  refine fm_getI (k := 0) hc K_Mo d_Mo_checkpoint_32 q_885 rfl (by decide) (by omega) (by decide) (by decide) (by decide) rfl ?_
  refine fm_top (congrArg Value.int (p1_same _ _ _ _)) ?_
  refine fm_putI (k := 0) (v := nI 0) hc K_Mo d_Mo_checkpoint_35 q_885 rfl (by decide) (by omega) (by decide) (by decide) (by decide) rfl rfl rfl rfl ?_
  refine fm_mem (M' := fm_put1 M 586 0 (nI 0)) rfl (p1_twice _ _ _ _ _) ?_
  refine fm_aload_n hc d_Mo_checkpoint_38 rfl rfl ?_
  refine fm_getI (k := 0) hc K_Mo d_Mo_checkpoint_39 q_885 rfl (by decide) (by omega) (by decide) (by decide) (by decide) rfl ?_
  refine fm_top (congrArg Value.int (p1_same _ _ _ _)) ?_
  refine fm_if_le (tgt := 47) hc d_Mo_checkpoint_42 rfl (fun _ => ?_) (fun g => absurd (by decide) g)
  refine fm_aload_n hc d_Mo_checkpoint_47 rfl rfl ?_
  refine fm_iconst (v := nI 3) hc d_Mo_checkpoint_48 rfl ?_
  refine fm_iload_n hc d_Mo_checkpoint_49 rfl rfl ?_
  refine fm_imul hc d_Mo_checkpoint_50 ?_
  refine fm_top (congrArg Value.int (pk_mul 3 j)) ?_
  refine fm_iconst (v := nI 3) hc d_Mo_checkpoint_51 rfl ?_
  refine fm_iload_n hc d_Mo_checkpoint_52 rfl rfl ?_
  refine fm_imul hc d_Mo_checkpoint_53 ?_
  refine fm_top (congrArg Value.int (pk_mul 3 j)) ?_
  refine fm_iconst (v := nI 1) hc d_Mo_checkpoint_54 rfl ?_
  refine fm_iadd hc d_Mo_checkpoint_55 ?_
  refine fm_top (congrArg Value.int (nI_add (3 * j) 1)) ?_
  refine fm_callV (av := [.int (nI (3 * j)), .int (nI ((3 * j) + 1))]) (rest := []) (ob := 586) (ci := 11) (r0 := ("AgentNetModel", F_Mo, 51)) (y := y_Mo_moveMemory) (bytes := b_Mo_moveMemory) hc fm_T0_good (fm_EX_st b x) hex q_1198 q_13 q_1195 q_1197 qs_Mo_moveMemory pd_Mo_moveMemory (by decide) (by omega) (by decide) (by decide) rfl rfl (c_moveMemory0 (M := fm_put1 M 586 0 (nI 0)) hn hR (by omega) (by omega) he) ⟨rfl, rfl, Nat.le_of_ble_eq_true rfl, Nat.le_of_ble_eq_true rfl⟩ ⟨Nat.le_of_ble_eq_true rfl, Nat.le_of_ble_eq_true rfl⟩ d_Mo_checkpoint_56 (Nat.le_of_ble_eq_true rfl) (fun r n2 M2 hp => ?_)
  obtain ⟨rfl, hq1, hq2⟩ := hp
  replace hq1 := hq1.symm
  replace hq2 := hq2.symm
  subst hq1 hq2
  refine fm_cnt (z' := (0, 0)) rfl (fm_st (st' := []) rfl ?_)
  refine fm_aload_n hc d_Mo_checkpoint_59 rfl rfl ?_
  refine fm_getR (k := 11) (q := 596) hc K_Mo d_Mo_checkpoint_60 q_896 rfl (by decide) (by omega) (by decide) (by decide) (by decide) rfl (rp_left hR) ?_
  refine fm_iload_n hc d_Mo_checkpoint_63 rfl rfl ?_
  refine fm_iconst (v := nI 1) hc d_Mo_checkpoint_64 rfl ?_
  refine fm_iast (j := j) (len := 4) (v := nI 1) hc 0 d_Mo_checkpoint_65 (by decide) (by omega) (by decide) rfl (by omega) (by decide) ?_
  refine fm_bipush (v := nI 24) hc d_Mo_checkpoint_66 rfl ?_
  refine fm_iload_n hc d_Mo_checkpoint_68 rfl rfl ?_
  refine fm_imul hc d_Mo_checkpoint_69 ?_
  refine fm_top (congrArg Value.int (pk_mul 24 j)) ?_
  refine fm_istore_n (lv' := [(2, .int (nI (24 * j))), (0, .ref 586), (1, .int (nI j))]) hc d_Mo_checkpoint_70 rfl (by decide) rfl ?_
  refine fm_loop0 (N := 8) (lv := fun k => [(2, .int (nI (24 * j + k))), (0, .ref 586), (1, .int (nI j))]) (fun k hk ih10 => ?_) ?_
  · refine fm_iload_n hc d_Mo_checkpoint_71 rfl rfl ?_
    refine fm_bipush (v := nI 24) hc d_Mo_checkpoint_72 rfl ?_
    refine fm_iload_n hc d_Mo_checkpoint_74 rfl rfl ?_
    refine fm_imul hc d_Mo_checkpoint_75 ?_
    refine fm_top (congrArg Value.int (pk_mul 24 j)) ?_
    refine fm_bipush (v := nI 8) hc d_Mo_checkpoint_76 rfl ?_
    refine fm_iadd hc d_Mo_checkpoint_78 ?_
    refine fm_top (congrArg Value.int (nI_add (24 * j) 8)) ?_
    refine fm_icmp_ge (tgt := 120) hc d_Mo_checkpoint_79 rfl (fun g => absurd g (hnle (a := 24 * j + 8) (c := 24 * j + k) (by omega) (by omega))) (fun _ => ?_)
    refine fm_aload_n hc d_Mo_checkpoint_82 rfl rfl ?_
    refine fm_getR (k := 11) (q := 596) hc K_Mo d_Mo_checkpoint_83 q_896 rfl (by decide) (by omega) (by decide) (by decide) (by decide) rfl (rp_left hR) ?_
    refine fm_iload_n hc d_Mo_checkpoint_86 rfl rfl ?_
    refine fm_aload_n hc d_Mo_checkpoint_87 rfl rfl ?_
    refine fm_getR (k := 12) (q := 597) hc K_Mo d_Mo_checkpoint_88 q_897 rfl (by decide) (by omega) (by decide) (by decide) (by decide) rfl (rp_slot hR) ?_
    refine fm_iload_n hc d_Mo_checkpoint_91 rfl rfl ?_
    refine fm_iald (j := 24 * j + k) (len := 96) hc 0 d_Mo_checkpoint_92 (by decide) (by omega) (by decide) rfl (by omega) (by decide) ?_
    refine fm_if_le (tgt := 107) hc d_Mo_checkpoint_93 rfl (fun _ => ?_) (fun g => absurd (Int32.le_of_eq (hz k hk)) g)
    refine fm_aload_n hc d_Mo_checkpoint_107 rfl rfl ?_
    refine fm_getR (k := 11) (q := 596) hc K_Mo d_Mo_checkpoint_108 q_896 rfl (by decide) (by omega) (by decide) (by decide) (by decide) rfl (rp_left hR) ?_
    refine fm_iload_n hc d_Mo_checkpoint_111 rfl rfl ?_
    refine fm_iald (j := j) (len := 4) hc 0 d_Mo_checkpoint_112 (by decide) (by omega) (by decide) rfl (by omega) (by decide) ?_
    refine fm_iast (j := j) (len := 4) (v := (fm_put1 (fm_put1 M 586 0 (nI 0)) 596 j (nI 1)).1 596 j) hc 0 d_Mo_checkpoint_113 (by decide) (by omega) (by decide) rfl (by omega) (by decide) ?_
    refine fm_mem (M' := fm_put1 (fm_put1 M 586 0 (nI 0)) 596 j (nI 1)) rfl (p1_id rfl) ?_
    refine fm_iinc (v := nI (24 * j + k + 1)) (lv' := [(2, .int (nI (24 * j + k + 1))), (0, .ref 586), (1, .int (nI j))]) hc d_Mo_checkpoint_114 rfl (nI_1 (24 * j + k)) (by decide) rfl ?_
    refine fm_goto (tgt := 71) hc d_Mo_checkpoint_117 rfl ?_
    exact ih10
  · refine fm_iload_n hc d_Mo_checkpoint_71 rfl rfl ?_
    refine fm_bipush (v := nI 24) hc d_Mo_checkpoint_72 rfl ?_
    refine fm_iload_n hc d_Mo_checkpoint_74 rfl rfl ?_
    refine fm_imul hc d_Mo_checkpoint_75 ?_
    refine fm_top (congrArg Value.int (pk_mul 24 j)) ?_
    refine fm_bipush (v := nI 8) hc d_Mo_checkpoint_76 rfl ?_
    refine fm_iadd hc d_Mo_checkpoint_78 ?_
    refine fm_top (congrArg Value.int (nI_add (24 * j) 8)) ?_
    refine fm_icmp_ge (tgt := 120) hc d_Mo_checkpoint_79 rfl (fun _ => ?_) (fun g => absurd (nI_le (Nat.le_refl _) (by omega)) g)
    refine fm_aload_n hc d_Mo_checkpoint_120 rfl rfl ?_
    refine fm_getR (k := 11) (q := 596) hc K_Mo d_Mo_checkpoint_121 q_896 rfl (by decide) (by omega) (by decide) (by decide) (by decide) rfl (rp_left hR) ?_
    refine fm_iload_n hc d_Mo_checkpoint_124 rfl rfl ?_
    refine fm_iald (j := j) (len := 4) hc 0 d_Mo_checkpoint_125 (by decide) (by omega) (by decide) rfl (by omega) (by decide) ?_
    refine fm_top (congrArg Value.int (p1_same _ _ _ _)) ?_
    exact fm_iret hc hr d_Mo_checkpoint_126 (Nat.le_refl _) (Nat.le_refl _) ⟨rfl, rfl, rfl⟩
theorem r_sealed0 {l : Launch} {b : Nat} {x : Nat → Nat} {D : va_G} {dA : Nat → ClassId} {i : Nat} {n : Nat} {M : fm_M} (hn : 629 ≤ n) (hR : fm_RP M) (hi : i < 8) (hz : ∀ k, k < 4 → ∀ i, i < 8 → M.1 597 (24 * k + 16 + i) = 0) : Met l y_Mo_sealed (Cond.code y_Mo_sealed b_Mo_sealed 8 (some .int) :: fm_T0) ({ frames := 1, cells := 0, slots := 0, locals := 22 }) (fm_Pc fm_lay fm_nf fm_fk fm_cl b x D dA (fm_tys dA) (fm_EX b x) false [.ref 586, .int (nI i)] n M) (fm_Qc fm_lay fm_nf fm_fk fm_cl b x D dA (fun r n' M' => r = some (.int (-1)) ∧ n' = n ∧ M' = fm_put1 M 586 0 (nI 0))) 0 0 (fm_A b) := by
  refine fm_enter (by decide) (Nat.le_of_ble_eq_true rfl) ?_
  intro p e s m args below meth c hc hr hnm hex htg
  refine fm_aload_n hc d_Mo_sealed_0 rfl rfl ?_
  refine fm_iconst (v := nI 0) hc d_Mo_sealed_1 rfl ?_
  refine fm_putI (k := 0) (v := nI 0) hc K_Mo d_Mo_sealed_2 q_885 rfl (by decide) (by omega) (by decide) (by decide) (by decide) rfl rfl rfl rfl ?_
  refine fm_iload_n hc d_Mo_sealed_5 rfl rfl ?_
  refine fm_iconst (v := nI 0) hc d_Mo_sealed_6 rfl ?_
  refine fm_bipush (v := nI 7) hc d_Mo_sealed_7 rfl ?_
  refine fm_callS (av := [.int (nI i), .int (nI 0), .int (nI 7)]) (rest := []) (y := y_Mo_within) (bytes := b_Mo_within) hc fm_T0_good (fm_EX_st b x) hex q_1049 q_13 q_1047 q_1048 pd_Mo_within (c_Mo_within_ok (wi_of8 (in8_of hi))) ⟨rfl, rfl, Nat.le_of_ble_eq_true rfl, Nat.le_of_ble_eq_true rfl⟩ ⟨Nat.le_of_ble_eq_true rfl, Nat.le_of_ble_eq_true rfl⟩ d_Mo_sealed_9 (Nat.le_of_ble_eq_true rfl) (fun r n2 M2 hp => ?_)
  obtain ⟨rfl, hq1, hq2⟩ := hp
  replace hq1 := hq1.symm
  replace hq2 := hq2.symm
  subst hq1 hq2
  refine fm_cnt (z' := (0, 0)) rfl (fm_st (st' := [.int (nI 1)]) rfl ?_)
  refine fm_if_ne (tgt := 17) hc d_Mo_sealed_12 rfl (fun _ => ?_) (fun g => absurd g (by decide))
  refine fm_iconst (v := (-1)) hc d_Mo_sealed_17 rfl ?_
  refine fm_istore_n (lv' := [(2, .int ((-1))), (0, .ref 586), (1, .int (nI i))]) hc d_Mo_sealed_18 rfl (by decide) rfl ?_
  refine fm_iconst (v := nI 0) hc d_Mo_sealed_19 rfl ?_
  refine fm_istore_n (lv' := [(3, .int (nI 0)), (2, .int ((-1))), (0, .ref 586), (1, .int (nI i))]) hc d_Mo_sealed_20 rfl (by decide) rfl ?_
  refine fm_loop0 (N := 4) (lv := fun k => [(3, .int (nI k)), (2, .int ((-1))), (0, .ref 586), (1, .int (nI i))]) (fun k hk ih11 => ?_) ?_
  · refine fm_iload_n hc d_Mo_sealed_21 rfl rfl ?_
    refine fm_iconst (v := nI 4) hc d_Mo_sealed_22 rfl ?_
    refine fm_icmp_ge (tgt := 76) hc d_Mo_sealed_23 rfl (fun g => absurd g (hnle (a := 4) (c := k) hk (by omega))) (fun _ => ?_)
    refine fm_bipush (v := nI 24) hc d_Mo_sealed_26 rfl ?_
    refine fm_iload_n hc d_Mo_sealed_28 rfl rfl ?_
    refine fm_imul hc d_Mo_sealed_29 ?_
    refine fm_top (congrArg Value.int (pk_mul 24 k)) ?_
    refine fm_bipush (v := nI 16) hc d_Mo_sealed_30 rfl ?_
    refine fm_iadd hc d_Mo_sealed_32 ?_
    refine fm_top (congrArg Value.int (nI_add (24 * k) 16)) ?_
    refine fm_iload_n hc d_Mo_sealed_33 rfl rfl ?_
    refine fm_iadd hc d_Mo_sealed_34 ?_
    refine fm_top (congrArg Value.int (nI_add ((24 * k) + 16) i)) ?_
    refine fm_istore (lv' := [(4, .int (nI (((24 * k) + 16) + i))), (3, .int (nI k)), (2, .int ((-1))), (0, .ref 586), (1, .int (nI i))]) hc d_Mo_sealed_35 (by decide) rfl ?_
    refine fm_aload_n hc d_Mo_sealed_37 rfl rfl ?_
    refine fm_getR (k := 12) (q := 597) hc K_Mo d_Mo_sealed_38 q_897 rfl (by decide) (by omega) (by decide) (by decide) (by decide) rfl (rp_slot hR) ?_
    refine fm_iload hc d_Mo_sealed_41 rfl ?_
    refine fm_iald (j := ((24 * k) + 16) + i) (len := 96) hc 0 d_Mo_sealed_43 (by decide) (by omega) (by decide) rfl (by omega) (by decide) ?_
    refine fm_if_le (tgt := 68) hc d_Mo_sealed_44 rfl (fun _ => ?_) (fun g => absurd (Int32.le_of_eq (hz k hk i hi)) g)
    refine fm_iload_n hc d_Mo_sealed_68 rfl rfl ?_
    refine fm_istore_n (lv' := [(2, .int ((-1))), (4, .int (nI (((24 * k) + 16) + i))), (3, .int (nI k)), (0, .ref 586), (1, .int (nI i))]) hc d_Mo_sealed_69 rfl (by decide) rfl ?_
    refine fm_iinc (v := nI (k + 1)) (lv' := [(3, .int (nI (k + 1))), (2, .int ((-1))), (4, .int (nI (((24 * k) + 16) + i))), (0, .ref 586), (1, .int (nI i))]) hc d_Mo_sealed_70 rfl (nI_1 k) (by decide) rfl ?_
    refine fm_goto (tgt := 21) hc d_Mo_sealed_73 rfl ?_
    refine fm_dropl (lv' := [(3, .int (nI (k + 1))), (2, .int ((-1))), (0, .ref 586), (1, .int (nI i))]) (by simp) ?_
    exact ih11
  · refine fm_iload_n hc d_Mo_sealed_21 rfl rfl ?_
    refine fm_iconst (v := nI 4) hc d_Mo_sealed_22 rfl ?_
    refine fm_icmp_ge (tgt := 76) hc d_Mo_sealed_23 rfl (fun _ => ?_) (fun g => absurd (by decide) g)
    refine fm_iconst (v := nI 0) hc d_Mo_sealed_76 rfl ?_
    refine fm_istore_n (lv' := [(3, .int (nI 0)), (2, .int ((-1))), (0, .ref 586), (1, .int (nI i))]) hc d_Mo_sealed_77 rfl (by decide) rfl ?_
    refine fm_iconst (v := nI 0) hc d_Mo_sealed_78 rfl ?_
    refine fm_istore (lv' := [(4, .int (nI 0)), (3, .int (nI 0)), (2, .int ((-1))), (0, .ref 586), (1, .int (nI i))]) hc d_Mo_sealed_79 (by decide) rfl ?_
    refine fm_iconst (v := nI 0) hc d_Mo_sealed_81 rfl ?_
    refine fm_istore (lv' := [(5, .int (nI 0)), (4, .int (nI 0)), (3, .int (nI 0)), (2, .int ((-1))), (0, .ref 586), (1, .int (nI i))]) hc d_Mo_sealed_82 (by decide) rfl ?_
    refine fm_loop0 (N := 4) (lv := fun k => [(5, .int (nI k)), (4, .int (nI 0)), (3, .int (nI 0)), (2, .int ((-1))), (0, .ref 586), (1, .int (nI i))]) (fun k hk ih12 => ?_) ?_
    · refine fm_iload hc d_Mo_sealed_84 rfl ?_
      refine fm_iconst (v := nI 4) hc d_Mo_sealed_86 rfl ?_
      refine fm_icmp_ge (tgt := 187) hc d_Mo_sealed_87 rfl (fun g => absurd g (hnle (a := 4) (c := k) hk (by omega))) (fun _ => ?_)
      refine fm_bipush (v := nI 24) hc d_Mo_sealed_90 rfl ?_
      refine fm_iload hc d_Mo_sealed_92 rfl ?_
      refine fm_imul hc d_Mo_sealed_94 ?_
      refine fm_top (congrArg Value.int (pk_mul 24 k)) ?_
      refine fm_bipush (v := nI 16) hc d_Mo_sealed_95 rfl ?_
      refine fm_iadd hc d_Mo_sealed_97 ?_
      refine fm_top (congrArg Value.int (nI_add (24 * k) 16)) ?_
      refine fm_iload_n hc d_Mo_sealed_98 rfl rfl ?_
      refine fm_iadd hc d_Mo_sealed_99 ?_
      refine fm_top (congrArg Value.int (nI_add ((24 * k) + 16) i)) ?_
      refine fm_istore (lv' := [(6, .int (nI (((24 * k) + 16) + i))), (5, .int (nI k)), (4, .int (nI 0)), (3, .int (nI 0)), (2, .int ((-1))), (0, .ref 586), (1, .int (nI i))]) hc d_Mo_sealed_100 (by decide) rfl ?_
      refine fm_aload_n hc d_Mo_sealed_102 rfl rfl ?_
      refine fm_getR (k := 12) (q := 597) hc K_Mo d_Mo_sealed_103 q_897 rfl (by decide) (by omega) (by decide) (by decide) (by decide) rfl (rp_slot hR) ?_
      refine fm_iload hc d_Mo_sealed_106 rfl ?_
      refine fm_iald (j := ((24 * k) + 16) + i) (len := 96) hc 0 d_Mo_sealed_108 (by decide) (by omega) (by decide) rfl (by omega) (by decide) ?_
      refine fm_if_le (tgt := 127) hc d_Mo_sealed_109 rfl (fun _ => ?_) (fun g => absurd (Int32.le_of_eq (hz k hk i hi)) g)
      refine fm_iconst (v := nI 0) hc d_Mo_sealed_127 rfl ?_
      refine fm_istore (lv' := [(7, .int (nI 0)), (6, .int (nI (((24 * k) + 16) + i))), (5, .int (nI k)), (4, .int (nI 0)), (3, .int (nI 0)), (2, .int ((-1))), (0, .ref 586), (1, .int (nI i))]) hc d_Mo_sealed_128 (by decide) rfl ?_
      refine fm_iload hc d_Mo_sealed_130 rfl ?_
      refine fm_if_eq (tgt := 152) hc d_Mo_sealed_132 rfl (fun _ => ?_) (fun g => absurd (by decide) g)
      refine fm_iload_n hc d_Mo_sealed_152 rfl rfl ?_
      refine fm_istore_n (lv' := [(3, .int (nI 0)), (7, .int (nI 0)), (6, .int (nI (((24 * k) + 16) + i))), (5, .int (nI k)), (4, .int (nI 0)), (2, .int ((-1))), (0, .ref 586), (1, .int (nI i))]) hc d_Mo_sealed_153 rfl (by decide) rfl ?_
      refine fm_iload hc d_Mo_sealed_154 rfl ?_
      refine fm_if_eq (tgt := 177) hc d_Mo_sealed_156 rfl (fun _ => ?_) (fun g => absurd (by decide) g)
      refine fm_iload hc d_Mo_sealed_177 rfl ?_
      refine fm_istore (lv' := [(4, .int (nI 0)), (3, .int (nI 0)), (7, .int (nI 0)), (6, .int (nI (((24 * k) + 16) + i))), (5, .int (nI k)), (2, .int ((-1))), (0, .ref 586), (1, .int (nI i))]) hc d_Mo_sealed_179 (by decide) rfl ?_
      refine fm_iinc (v := nI (k + 1)) (lv' := [(5, .int (nI (k + 1))), (4, .int (nI 0)), (3, .int (nI 0)), (7, .int (nI 0)), (6, .int (nI (((24 * k) + 16) + i))), (2, .int ((-1))), (0, .ref 586), (1, .int (nI i))]) hc d_Mo_sealed_181 rfl (nI_1 k) (by decide) rfl ?_
      refine fm_goto (tgt := 84) hc d_Mo_sealed_184 rfl ?_
      refine fm_dropl (lv' := [(5, .int (nI (k + 1))), (4, .int (nI 0)), (3, .int (nI 0)), (2, .int ((-1))), (0, .ref 586), (1, .int (nI i))]) (by simp) ?_
      exact ih12
    · refine fm_iload hc d_Mo_sealed_84 rfl ?_
      refine fm_iconst (v := nI 4) hc d_Mo_sealed_86 rfl ?_
      refine fm_icmp_ge (tgt := 187) hc d_Mo_sealed_87 rfl (fun _ => ?_) (fun g => absurd (by decide) g)
      refine fm_iload_n hc d_Mo_sealed_187 rfl rfl ?_
      refine fm_if_ge (tgt := 195) hc d_Mo_sealed_188 rfl (fun g => absurd g (by decide)) (fun _ => ?_)
      refine fm_iconst (v := (-1)) hc d_Mo_sealed_191 rfl ?_
      refine fm_goto (tgt := 210) hc d_Mo_sealed_192 rfl ?_
      exact fm_iret hc hr d_Mo_sealed_210 (Nat.le_refl _) (Nat.le_refl _) ⟨rfl, rfl, rfl⟩
theorem irem4 : ∀ i, i < 8 → nI i - nI i / nI 4 * nI 4 = nI (i % 4) := by decide +kernel
theorem c_runAlone_bad {l : Launch} {b : Nat} {x : Nat → Nat} {D : va_G} {dA : Nat → ClassId} {v : Int32} {n : Nat} {M : fm_M} (hn : 629 ≤ n) (hR : fm_RP M) (hv : ¬ fm_in 8 v) : Met l y_Mo_runAlone (Cond.code y_Mo_runAlone b_Mo_runAlone 3 (some .boolean) :: fm_T0) ({ frames := 1, cells := 0, slots := 0, locals := 22 }) (fm_Pc fm_lay fm_nf fm_fk fm_cl b x D dA (fm_tys dA) (fm_EX b x) false [.ref 586, .int v] n M) (fm_Qc fm_lay fm_nf fm_fk fm_cl b x D dA (fun r n' M' => r = some (.int (nI 0)) ∧ n' = n ∧ M' = M)) 0 0 (fm_A b) := by
  refine fm_enter (by decide) (Nat.le_of_ble_eq_true rfl) ?_
  intro p e s m args below meth c hc hr hnm hex htg
  refine fm_iload_n hc d_Mo_runAlone_0 rfl rfl ?_
  refine fm_iconst (v := nI 0) hc d_Mo_runAlone_1 rfl ?_
  refine fm_bipush (v := nI 7) hc d_Mo_runAlone_2 rfl ?_
  refine fm_callS (av := [.int v, .int (nI 0), .int (nI 7)]) (rest := []) (y := y_Mo_within) (bytes := b_Mo_within) hc fm_T0_good (fm_EX_st b x) hex q_1049 q_13 q_1047 q_1048 pd_Mo_within (c_Mo_within_no (wi_no8 hv)) ⟨rfl, rfl, Nat.le_of_ble_eq_true rfl, Nat.le_of_ble_eq_true rfl⟩ ⟨Nat.le_of_ble_eq_true rfl, Nat.le_of_ble_eq_true rfl⟩ d_Mo_runAlone_4 (Nat.le_of_ble_eq_true rfl) (fun r n2 M2 hp => ?_)
  obtain ⟨rfl, hq1, hq2⟩ := hp
  replace hq1 := hq1.symm
  replace hq2 := hq2.symm
  subst hq1 hq2
  refine fm_cnt (z' := (0, 0)) rfl (fm_st (st' := [.int (nI 0)]) rfl ?_)
  refine fm_if_eq (tgt := 20) hc d_Mo_runAlone_7 rfl (fun _ => ?_) (fun g => absurd (by decide) g)
  refine fm_iconst (v := nI 0) hc d_Mo_runAlone_20 rfl ?_
  exact fm_zret (ty := .boolean) hc hr (by first | rfl | decide) d_Mo_runAlone_21 (Nat.le_refl _) (Nat.le_refl _) ⟨rfl, rfl, rfl⟩
theorem c_runAlone_no {l : Launch} {b : Nat} {x : Nat → Nat} {D : va_G} {dA : Nat → ClassId} {i : Nat} {n : Nat} {M : fm_M} (hn : 629 ≤ n) (hR : fm_RP M) (hi : i < 8) (hL : ¬ nI (i % 4) < M.1 586 4) : Met l y_Mo_runAlone (Cond.code y_Mo_runAlone b_Mo_runAlone 3 (some .boolean) :: fm_T0) ({ frames := 1, cells := 0, slots := 0, locals := 22 }) (fm_Pc fm_lay fm_nf fm_fk fm_cl b x D dA (fm_tys dA) (fm_EX b x) false [.ref 586, .int (nI i)] n M) (fm_Qc fm_lay fm_nf fm_fk fm_cl b x D dA (fun r n' M' => r = some (.int (nI 0)) ∧ n' = n ∧ M' = M)) 0 0 (fm_A b) := by
  refine fm_enter (by decide) (Nat.le_of_ble_eq_true rfl) ?_
  intro p e s m args below meth c hc hr hnm hex htg
  refine fm_iload_n hc d_Mo_runAlone_0 rfl rfl ?_
  refine fm_iconst (v := nI 0) hc d_Mo_runAlone_1 rfl ?_
  refine fm_bipush (v := nI 7) hc d_Mo_runAlone_2 rfl ?_
  refine fm_callS (av := [.int (nI i), .int (nI 0), .int (nI 7)]) (rest := []) (y := y_Mo_within) (bytes := b_Mo_within) hc fm_T0_good (fm_EX_st b x) hex q_1049 q_13 q_1047 q_1048 pd_Mo_within (c_Mo_within_ok (wi_of8 (in8_of hi))) ⟨rfl, rfl, Nat.le_of_ble_eq_true rfl, Nat.le_of_ble_eq_true rfl⟩ ⟨Nat.le_of_ble_eq_true rfl, Nat.le_of_ble_eq_true rfl⟩ d_Mo_runAlone_4 (Nat.le_of_ble_eq_true rfl) (fun r n2 M2 hp => ?_)
  obtain ⟨rfl, hq1, hq2⟩ := hp
  replace hq1 := hq1.symm
  replace hq2 := hq2.symm
  subst hq1 hq2
  refine fm_cnt (z' := (0, 0)) rfl (fm_st (st' := [.int (nI 1)]) rfl ?_)
  refine fm_if_eq (tgt := 20) hc d_Mo_runAlone_7 rfl (fun g => absurd g (by decide)) (fun _ => ?_)
  refine fm_iload_n hc d_Mo_runAlone_10 rfl rfl ?_
  refine fm_iconst (v := nI 4) hc d_Mo_runAlone_11 rfl ?_
  refine fm_irem hc d_Mo_runAlone_12 (by decide) ?_
  refine fm_top (congrArg Value.int (irem4 i hi)) ?_
  refine fm_aload_n hc d_Mo_runAlone_13 rfl rfl ?_
  refine fm_getI (k := 4) hc K_Mo d_Mo_runAlone_14 q_889 rfl (by decide) (by omega) (by decide) (by decide) (by decide) rfl ?_
  refine fm_icmp_lt (tgt := 22) hc d_Mo_runAlone_17 rfl (fun g => absurd g hL) (fun _ => ?_)
  refine fm_iconst (v := nI 0) hc d_Mo_runAlone_20 rfl ?_
  exact fm_zret (ty := .boolean) hc hr (by first | rfl | decide) d_Mo_runAlone_21 (Nat.le_refl _) (Nat.le_refl _) ⟨rfl, rfl, rfl⟩
theorem r_expected_bad {l : Launch} {b : Nat} {x : Nat → Nat} {D : va_G} {dA : Nat → ClassId} {v : Int32} {n : Nat} {M : fm_M} (hn : 629 ≤ n) (hR : fm_RP M) (hv : ¬ fm_in 8 v) : Met l y_Mo_expected (Cond.code y_Mo_expected b_Mo_expected 2 (some .int) :: fm_T0) ({ frames := 2, cells := 0, slots := 0, locals := 44 }) (fm_Pc fm_lay fm_nf fm_fk fm_cl b x D dA (fm_tys dA) (fm_EX b x) false [.ref 586, .int v] n M) (fm_Qc fm_lay fm_nf fm_fk fm_cl b x D dA (fun r n' M' => r = some (.int (-1)) ∧ n' = n ∧ M' = fm_put1 M 586 0 (nI 0))) 0 0 (fm_A b) := by
  refine fm_enter (by decide) (Nat.le_of_ble_eq_true rfl) ?_
  intro p e s m args below meth c hc hr hnm hex htg
  refine fm_aload_n hc d_Mo_expected_0 rfl rfl ?_
  refine fm_iconst (v := nI 0) hc d_Mo_expected_1 rfl ?_
  refine fm_putI (k := 0) (v := nI 0) hc K_Mo d_Mo_expected_2 q_885 rfl (by decide) (by omega) (by decide) (by decide) (by decide) rfl rfl rfl rfl ?_
  refine fm_aload_n hc d_Mo_expected_5 rfl rfl ?_
  refine fm_iload_n hc d_Mo_expected_6 rfl rfl ?_
  refine fm_callV (av := [.int v]) (rest := []) (ob := 586) (ci := 11) (r0 := ("AgentNetModel", F_Mo, 51)) (y := y_Mo_runAlone) (bytes := b_Mo_runAlone) hc fm_T0_good (fm_EX_st b x) hex q_1274 q_13 q_1271 q_1273 qs_Mo_runAlone pd_Mo_runAlone (by decide) (by omega) (by decide) (by decide) rfl rfl (c_runAlone_bad (M := fm_put1 M 586 0 (nI 0)) hn hR hv) ⟨rfl, rfl, Nat.le_of_ble_eq_true rfl, Nat.le_of_ble_eq_true rfl⟩ ⟨Nat.le_of_ble_eq_true rfl, Nat.le_of_ble_eq_true rfl⟩ d_Mo_expected_7 (Nat.le_of_ble_eq_true rfl) (fun r n2 M2 hp => ?_)
  obtain ⟨rfl, hq1, hq2⟩ := hp
  replace hq1 := hq1.symm
  replace hq2 := hq2.symm
  subst hq1 hq2
  refine fm_cnt (z' := (0, 0)) rfl (fm_st (st' := [.int (nI 0)]) rfl ?_)
  refine fm_if_eq (tgt := 20) hc d_Mo_expected_10 rfl (fun _ => ?_) (fun g => absurd (by decide) g)
  refine fm_iconst (v := (-1)) hc d_Mo_expected_20 rfl ?_
  exact fm_iret hc hr d_Mo_expected_21 (Nat.le_refl _) (Nat.le_refl _) ⟨rfl, rfl, rfl⟩
theorem r_expectedOutput_bad {l : Launch} {b : Nat} {x : Nat → Nat} {D : va_G} {dA : Nat → ClassId} {v : Int32} {w : Int32} {n : Nat} {M : fm_M} (hn : 629 ≤ n) (hR : fm_RP M) (hv : ¬ fm_in 8 v) : Met l y_Mo_expectedOutput (Cond.code y_Mo_expectedOutput b_Mo_expectedOutput 3 (some .long) :: fm_T0) ({ frames := 2, cells := 0, slots := 0, locals := 44 }) (fm_Pc fm_lay fm_nf fm_fk fm_cl b x D dA (fm_tys dA) (fm_EX b x) false [.ref 586, .int v, .int w] n M) (fm_Qc fm_lay fm_nf fm_fk fm_cl b x D dA (fun r n' M' => r = some (.long 1099511627776) ∧ n' = n ∧ M' = fm_put1 M 586 0 (nI 0))) 0 0 (fm_A b) := by
  refine fm_enter (by decide) (Nat.le_of_ble_eq_true rfl) ?_
  intro p e s m args below meth c hc hr hnm hex htg
  refine fm_aload_n hc d_Mo_expectedOutput_0 rfl rfl ?_
  refine fm_iconst (v := nI 0) hc d_Mo_expectedOutput_1 rfl ?_
  refine fm_putI (k := 0) (v := nI 0) hc K_Mo d_Mo_expectedOutput_2 q_885 rfl (by decide) (by omega) (by decide) (by decide) (by decide) rfl rfl rfl rfl ?_
  refine fm_aload_n hc d_Mo_expectedOutput_5 rfl rfl ?_
  refine fm_iload_n hc d_Mo_expectedOutput_6 rfl rfl ?_
  refine fm_callV (av := [.int v]) (rest := []) (ob := 586) (ci := 11) (r0 := ("AgentNetModel", F_Mo, 51)) (y := y_Mo_runAlone) (bytes := b_Mo_runAlone) hc fm_T0_good (fm_EX_st b x) hex q_1274 q_13 q_1271 q_1273 qs_Mo_runAlone pd_Mo_runAlone (by decide) (by omega) (by decide) (by decide) rfl rfl (c_runAlone_bad (M := fm_put1 M 586 0 (nI 0)) hn hR hv) ⟨rfl, rfl, Nat.le_of_ble_eq_true rfl, Nat.le_of_ble_eq_true rfl⟩ ⟨Nat.le_of_ble_eq_true rfl, Nat.le_of_ble_eq_true rfl⟩ d_Mo_expectedOutput_7 (Nat.le_of_ble_eq_true rfl) (fun r n2 M2 hp => ?_)
  obtain ⟨rfl, hq1, hq2⟩ := hp
  replace hq1 := hq1.symm
  replace hq2 := hq2.symm
  subst hq1 hq2
  refine fm_cnt (z' := (0, 0)) rfl (fm_st (st' := [.int (nI 0)]) rfl ?_)
  refine fm_if_eq (tgt := 37) hc d_Mo_expectedOutput_10 rfl (fun _ => ?_) (fun g => absurd (by decide) g)
  refine fm_ldc2 (v := 1099511627776) hc d_Mo_expectedOutput_37 q_1098 ?_
  exact fm_lret hc hr d_Mo_expectedOutput_40 (Nat.le_refl _) (Nat.le_refl _) ⟨rfl, rfl, rfl⟩
theorem r_expected_no {l : Launch} {b : Nat} {x : Nat → Nat} {D : va_G} {dA : Nat → ClassId} {i : Nat} {n : Nat} {M : fm_M} (hn : 629 ≤ n) (hR : fm_RP M) (hi : i < 8) (hL : ¬ nI (i % 4) < M.1 586 4) : Met l y_Mo_expected (Cond.code y_Mo_expected b_Mo_expected 2 (some .int) :: fm_T0) ({ frames := 2, cells := 0, slots := 0, locals := 44 }) (fm_Pc fm_lay fm_nf fm_fk fm_cl b x D dA (fm_tys dA) (fm_EX b x) false [.ref 586, .int (nI i)] n M) (fm_Qc fm_lay fm_nf fm_fk fm_cl b x D dA (fun r n' M' => r = some (.int (-1)) ∧ n' = n ∧ M' = fm_put1 M 586 0 (nI 0))) 0 0 (fm_A b) := by
  refine fm_enter (by decide) (Nat.le_of_ble_eq_true rfl) ?_
  intro p e s m args below meth c hc hr hnm hex htg
  refine fm_aload_n hc d_Mo_expected_0 rfl rfl ?_
  refine fm_iconst (v := nI 0) hc d_Mo_expected_1 rfl ?_
  refine fm_putI (k := 0) (v := nI 0) hc K_Mo d_Mo_expected_2 q_885 rfl (by decide) (by omega) (by decide) (by decide) (by decide) rfl rfl rfl rfl ?_
  refine fm_aload_n hc d_Mo_expected_5 rfl rfl ?_
  refine fm_iload_n hc d_Mo_expected_6 rfl rfl ?_
  refine fm_callV (av := [.int (nI i)]) (rest := []) (ob := 586) (ci := 11) (r0 := ("AgentNetModel", F_Mo, 51)) (y := y_Mo_runAlone) (bytes := b_Mo_runAlone) hc fm_T0_good (fm_EX_st b x) hex q_1274 q_13 q_1271 q_1273 qs_Mo_runAlone pd_Mo_runAlone (by decide) (by omega) (by decide) (by decide) rfl rfl (c_runAlone_no (M := fm_put1 M 586 0 (nI 0)) hn hR hi hL) ⟨rfl, rfl, Nat.le_of_ble_eq_true rfl, Nat.le_of_ble_eq_true rfl⟩ ⟨Nat.le_of_ble_eq_true rfl, Nat.le_of_ble_eq_true rfl⟩ d_Mo_expected_7 (Nat.le_of_ble_eq_true rfl) (fun r n2 M2 hp => ?_)
  obtain ⟨rfl, hq1, hq2⟩ := hp
  replace hq1 := hq1.symm
  replace hq2 := hq2.symm
  subst hq1 hq2
  refine fm_cnt (z' := (0, 0)) rfl (fm_st (st' := [.int (nI 0)]) rfl ?_)
  refine fm_if_eq (tgt := 20) hc d_Mo_expected_10 rfl (fun _ => ?_) (fun g => absurd (by decide) g)
  refine fm_iconst (v := (-1)) hc d_Mo_expected_20 rfl ?_
  exact fm_iret hc hr d_Mo_expected_21 (Nat.le_refl _) (Nat.le_refl _) ⟨rfl, rfl, rfl⟩
theorem r_expectedOutput_no {l : Launch} {b : Nat} {x : Nat → Nat} {D : va_G} {dA : Nat → ClassId} {i : Nat} {w : Int32} {n : Nat} {M : fm_M} (hn : 629 ≤ n) (hR : fm_RP M) (hi : i < 8) (hL : ¬ nI (i % 4) < M.1 586 4) : Met l y_Mo_expectedOutput (Cond.code y_Mo_expectedOutput b_Mo_expectedOutput 3 (some .long) :: fm_T0) ({ frames := 2, cells := 0, slots := 0, locals := 44 }) (fm_Pc fm_lay fm_nf fm_fk fm_cl b x D dA (fm_tys dA) (fm_EX b x) false [.ref 586, .int (nI i), .int w] n M) (fm_Qc fm_lay fm_nf fm_fk fm_cl b x D dA (fun r n' M' => r = some (.long 1099511627776) ∧ n' = n ∧ M' = fm_put1 M 586 0 (nI 0))) 0 0 (fm_A b) := by
  refine fm_enter (by decide) (Nat.le_of_ble_eq_true rfl) ?_
  intro p e s m args below meth c hc hr hnm hex htg
  refine fm_aload_n hc d_Mo_expectedOutput_0 rfl rfl ?_
  refine fm_iconst (v := nI 0) hc d_Mo_expectedOutput_1 rfl ?_
  refine fm_putI (k := 0) (v := nI 0) hc K_Mo d_Mo_expectedOutput_2 q_885 rfl (by decide) (by omega) (by decide) (by decide) (by decide) rfl rfl rfl rfl ?_
  refine fm_aload_n hc d_Mo_expectedOutput_5 rfl rfl ?_
  refine fm_iload_n hc d_Mo_expectedOutput_6 rfl rfl ?_
  refine fm_callV (av := [.int (nI i)]) (rest := []) (ob := 586) (ci := 11) (r0 := ("AgentNetModel", F_Mo, 51)) (y := y_Mo_runAlone) (bytes := b_Mo_runAlone) hc fm_T0_good (fm_EX_st b x) hex q_1274 q_13 q_1271 q_1273 qs_Mo_runAlone pd_Mo_runAlone (by decide) (by omega) (by decide) (by decide) rfl rfl (c_runAlone_no (M := fm_put1 M 586 0 (nI 0)) hn hR hi hL) ⟨rfl, rfl, Nat.le_of_ble_eq_true rfl, Nat.le_of_ble_eq_true rfl⟩ ⟨Nat.le_of_ble_eq_true rfl, Nat.le_of_ble_eq_true rfl⟩ d_Mo_expectedOutput_7 (Nat.le_of_ble_eq_true rfl) (fun r n2 M2 hp => ?_)
  obtain ⟨rfl, hq1, hq2⟩ := hp
  replace hq1 := hq1.symm
  replace hq2 := hq2.symm
  subst hq1 hq2
  refine fm_cnt (z' := (0, 0)) rfl (fm_st (st' := [.int (nI 0)]) rfl ?_)
  refine fm_if_eq (tgt := 37) hc d_Mo_expectedOutput_10 rfl (fun _ => ?_) (fun g => absurd (by decide) g)
  refine fm_ldc2 (v := 1099511627776) hc d_Mo_expectedOutput_37 q_1098 ?_
  exact fm_lret hc hr d_Mo_expectedOutput_40 (Nat.le_refl _) (Nat.le_refl _) ⟨rfl, rfl, rfl⟩
