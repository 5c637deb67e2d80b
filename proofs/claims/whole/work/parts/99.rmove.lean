/-! THE REFERENCE: moveAgent, for any agent; bear -/
def mv_R (gb : Nat) (M M' : fm_M) : Prop := M'.2.2 = M.2.2 ∧ (∀ o j, ¬ (605 ≤ o ∧ o ≤ 614 ∧ j = gb) → M'.1 o j = M.1 o j) ∧ (∀ o j, ¬ (o = 613 ∧ 6 * gb ≤ j ∧ j < 6 * gb + 6) → ¬ ((o = 615 ∨ o = 616) ∧ 9 * gb ≤ j ∧ j < 9 * gb + 9) → M'.2.1 o j = M.2.1 o j)
def mv_C (ga gb : Nat) (M M' : fm_M) : Prop := (∀ k, 1 ≤ k → k ≤ 10 → k ≠ 9 → M'.1 (604 + k) gb = M.1 (604 + k) ga) ∧ (∀ k, k < 6 → M'.2.1 613 (6 * gb + k) = M.2.1 613 (6 * ga + k)) ∧ (∀ k, k < 9 → M'.2.1 615 (9 * gb + k) = M.2.1 615 (9 * ga + k) ∧ M'.2.1 616 (9 * gb + k) = M.2.1 616 (9 * ga + k))
theorem nar_b {v : Int32} (h : v = 0 ∨ v = 1) : vp_nar .boolean v = v := by rcases h with rfl | rfl <;> rfl
theorem mvR_RP {gb : Nat} {M M' : fm_M} (h : mv_R gb M M') (g : fm_RP M) : fm_RP M' := fun q hq => by rw [h.1]; exact g q hq
theorem rc_move {l : Launch} {b : Nat} {x : Nat → Nat} {D : va_G} {dA : Nat → ClassId} {ga gb n : Nat} {M : fm_M} (hn : 629 ≤ n) (hR : fm_RP M) (ha : ga < 98) (hb9 : gb < 98) (hab : ga ≠ gb) (hb : M.1 611 ga = 0 ∨ M.1 611 ga = 1) : Met l y_Mo_moveAgent (Cond.code y_Mo_moveAgent b_Mo_moveAgent 4 none :: fm_T0) ({ frames := 0, cells := 0, slots := 0, locals := 0 }) (fm_Pc fm_lay fm_nf fm_fk fm_cl b x D dA (fm_tys dA) (fm_EX b x) false [.ref 586, .int (nI ga), .int (nI gb)] n M) (fm_Qc fm_lay fm_nf fm_fk fm_cl b x D dA (fun r n' M' => r = none ∧ n' = n ∧ mv_C ga gb M M' ∧ mv_R gb M M')) 0 0 (fm_A b) := by
  refine fm_enter (by decide) (Nat.le_of_ble_eq_true rfl) ?_
  intro p e s m args below meth c9 hc hr hnm hex htg
  refine fm_aload_n hc d_Mo_moveAgent_0 rfl rfl ?_
  refine fm_getR (k := 20) (q := 605) hc K_Mo d_Mo_moveAgent_1 q_905 rfl (by decide) (by omega) (by decide) (by decide) (by decide) rfl (rp_program hR) ?_
  refine fm_iload_n hc d_Mo_moveAgent_4 rfl rfl ?_
  refine fm_aload_n hc d_Mo_moveAgent_5 rfl rfl ?_
  refine fm_getR (k := 20) (q := 605) hc K_Mo d_Mo_moveAgent_6 q_905 rfl (by decide) (by omega) (by decide) (by decide) (by decide) rfl (rp_program hR) ?_
  refine fm_iload_n hc d_Mo_moveAgent_9 rfl rfl ?_
  refine fm_iald (j := ga) (len := 98) hc 0 d_Mo_moveAgent_10 (by decide) (by omega) (by decide) rfl (by omega) (by decide) ?_
  refine fm_top (congrArg Value.int (rfl)) ?_
  refine fm_iast (j := gb) (len := 98) (v := M.1 605 ga) hc 0 d_Mo_moveAgent_11 (by decide) (by omega) (by decide) rfl (by omega) (by decide) ?_
  refine fm_aload_n hc d_Mo_moveAgent_12 rfl rfl ?_
  refine fm_getR (k := 21) (q := 606) hc K_Mo d_Mo_moveAgent_13 q_906 rfl (by decide) (by omega) (by decide) (by decide) (by decide) rfl (rp_place hR) ?_
  refine fm_iload_n hc d_Mo_moveAgent_16 rfl rfl ?_
  refine fm_aload_n hc d_Mo_moveAgent_17 rfl rfl ?_
  refine fm_getR (k := 21) (q := 606) hc K_Mo d_Mo_moveAgent_18 q_906 rfl (by decide) (by omega) (by decide) (by decide) (by decide) rfl (rp_place hR) ?_
  refine fm_iload_n hc d_Mo_moveAgent_21 rfl rfl ?_
  refine fm_iald (j := ga) (len := 98) hc 0 d_Mo_moveAgent_22 (by decide) (by omega) (by decide) rfl (by omega) (by decide) ?_
  refine fm_top (congrArg Value.int ((p1_other (by decide)).trans (rfl))) ?_
  refine fm_iast (j := gb) (len := 98) (v := M.1 606 ga) hc 0 d_Mo_moveAgent_23 (by decide) (by omega) (by decide) rfl (by omega) (by decide) ?_
  refine fm_aload_n hc d_Mo_moveAgent_24 rfl rfl ?_
  refine fm_getR (k := 22) (q := 607) hc K_Mo d_Mo_moveAgent_25 q_907 rfl (by decide) (by omega) (by decide) (by decide) (by decide) rfl (rp_fuel hR) ?_
  refine fm_iload_n hc d_Mo_moveAgent_28 rfl rfl ?_
  refine fm_aload_n hc d_Mo_moveAgent_29 rfl rfl ?_
  refine fm_getR (k := 22) (q := 607) hc K_Mo d_Mo_moveAgent_30 q_907 rfl (by decide) (by omega) (by decide) (by decide) (by decide) rfl (rp_fuel hR) ?_
  refine fm_iload_n hc d_Mo_moveAgent_33 rfl rfl ?_
  refine fm_iald (j := ga) (len := 98) hc 0 d_Mo_moveAgent_34 (by decide) (by omega) (by decide) rfl (by omega) (by decide) ?_
  refine fm_top (congrArg Value.int ((p1_other (by decide)).trans ((p1_other (by decide)).trans (rfl)))) ?_
  refine fm_iast (j := gb) (len := 98) (v := M.1 607 ga) hc 0 d_Mo_moveAgent_35 (by decide) (by omega) (by decide) rfl (by omega) (by decide) ?_
  refine fm_aload_n hc d_Mo_moveAgent_36 rfl rfl ?_
  refine fm_getR (k := 23) (q := 608) hc K_Mo d_Mo_moveAgent_37 q_908 rfl (by decide) (by omega) (by decide) (by decide) (by decide) rfl (rp_hops hR) ?_
  refine fm_iload_n hc d_Mo_moveAgent_40 rfl rfl ?_
  refine fm_aload_n hc d_Mo_moveAgent_41 rfl rfl ?_
  refine fm_getR (k := 23) (q := 608) hc K_Mo d_Mo_moveAgent_42 q_908 rfl (by decide) (by omega) (by decide) (by decide) (by decide) rfl (rp_hops hR) ?_
  refine fm_iload_n hc d_Mo_moveAgent_45 rfl rfl ?_
  refine fm_iald (j := ga) (len := 98) hc 0 d_Mo_moveAgent_46 (by decide) (by omega) (by decide) rfl (by omega) (by decide) ?_
  refine fm_top (congrArg Value.int ((p1_other (by decide)).trans ((p1_other (by decide)).trans ((p1_other (by decide)).trans (rfl))))) ?_
  refine fm_iast (j := gb) (len := 98) (v := M.1 608 ga) hc 0 d_Mo_moveAgent_47 (by decide) (by omega) (by decide) rfl (by omega) (by decide) ?_
  refine fm_aload_n hc d_Mo_moveAgent_48 rfl rfl ?_
  refine fm_getR (k := 24) (q := 609) hc K_Mo d_Mo_moveAgent_49 q_909 rfl (by decide) (by omega) (by decide) (by decide) (by decide) rfl (rp_said hR) ?_
  refine fm_iload_n hc d_Mo_moveAgent_52 rfl rfl ?_
  refine fm_aload_n hc d_Mo_moveAgent_53 rfl rfl ?_
  refine fm_getR (k := 24) (q := 609) hc K_Mo d_Mo_moveAgent_54 q_909 rfl (by decide) (by omega) (by decide) (by decide) (by decide) rfl (rp_said hR) ?_
  refine fm_iload_n hc d_Mo_moveAgent_57 rfl rfl ?_
  refine fm_iald (j := ga) (len := 98) hc 0 d_Mo_moveAgent_58 (by decide) (by omega) (by decide) rfl (by omega) (by decide) ?_
  refine fm_top (congrArg Value.int ((p1_other (by decide)).trans ((p1_other (by decide)).trans ((p1_other (by decide)).trans ((p1_other (by decide)).trans (rfl)))))) ?_
  refine fm_iast (j := gb) (len := 98) (v := M.1 609 ga) hc 0 d_Mo_moveAgent_59 (by decide) (by omega) (by decide) rfl (by omega) (by decide) ?_
  refine fm_aload_n hc d_Mo_moveAgent_60 rfl rfl ?_
  refine fm_getR (k := 25) (q := 610) hc K_Mo d_Mo_moveAgent_61 q_910 rfl (by decide) (by omega) (by decide) (by decide) (by decide) rfl (rp_wait hR) ?_
  refine fm_iload_n hc d_Mo_moveAgent_64 rfl rfl ?_
  refine fm_aload_n hc d_Mo_moveAgent_65 rfl rfl ?_
  refine fm_getR (k := 25) (q := 610) hc K_Mo d_Mo_moveAgent_66 q_910 rfl (by decide) (by omega) (by decide) (by decide) (by decide) rfl (rp_wait hR) ?_
  refine fm_iload_n hc d_Mo_moveAgent_69 rfl rfl ?_
  refine fm_iald (j := ga) (len := 98) hc 0 d_Mo_moveAgent_70 (by decide) (by omega) (by decide) rfl (by omega) (by decide) ?_
  refine fm_top (congrArg Value.int ((p1_other (by decide)).trans ((p1_other (by decide)).trans ((p1_other (by decide)).trans ((p1_other (by decide)).trans ((p1_other (by decide)).trans (rfl))))))) ?_
  refine fm_iast (j := gb) (len := 98) (v := M.1 610 ga) hc 0 d_Mo_moveAgent_71 (by decide) (by omega) (by decide) rfl (by omega) (by decide) ?_
  refine fm_aload_n hc d_Mo_moveAgent_72 rfl rfl ?_
  refine fm_getR (k := 26) (q := 611) hc K_Mo d_Mo_moveAgent_73 q_911 rfl (by decide) (by omega) (by decide) (by decide) (by decide) rfl (rp_cloned hR) ?_
  refine fm_iload_n hc d_Mo_moveAgent_76 rfl rfl ?_
  refine fm_aload_n hc d_Mo_moveAgent_77 rfl rfl ?_
  refine fm_getR (k := 26) (q := 611) hc K_Mo d_Mo_moveAgent_78 q_911 rfl (by decide) (by omega) (by decide) (by decide) (by decide) rfl (rp_cloned hR) ?_
  refine fm_iload_n hc d_Mo_moveAgent_81 rfl rfl ?_
  refine fm_zald (j := ga) (len := 98) hc 1 d_Mo_moveAgent_82 (by decide) (by omega) (by decide) rfl (by omega) (by decide) ?_
  refine fm_top (congrArg Value.int ((p1_other (by decide)).trans ((p1_other (by decide)).trans ((p1_other (by decide)).trans ((p1_other (by decide)).trans ((p1_other (by decide)).trans ((p1_other (by decide)).trans (rfl)))))))) ?_
  refine fm_zast (j := gb) (len := 98) (v := M.1 611 ga) hc 1 d_Mo_moveAgent_83 (by decide) (by omega) (by decide) rfl (by omega) (by decide) ?_
  refine fm_mem (M' := fm_put1 (fm_put1 (fm_put1 (fm_put1 (fm_put1 (fm_put1 (fm_put1 (M) 605 gb (M.1 605 ga)) 606 gb (M.1 606 ga)) 607 gb (M.1 607 ga)) 608 gb (M.1 608 ga)) 609 gb (M.1 609 ga)) 610 gb (M.1 610 ga)) 611 gb (M.1 611 ga)) rfl (by rw [nar_b hb]) ?_
  refine fm_aload_n hc d_Mo_moveAgent_84 rfl rfl ?_
  refine fm_getR (k := 27) (q := 612) hc K_Mo d_Mo_moveAgent_85 q_912 rfl (by decide) (by omega) (by decide) (by decide) (by decide) rfl (rp_size hR) ?_
  refine fm_iload_n hc d_Mo_moveAgent_88 rfl rfl ?_
  refine fm_aload_n hc d_Mo_moveAgent_89 rfl rfl ?_
  refine fm_getR (k := 27) (q := 612) hc K_Mo d_Mo_moveAgent_90 q_912 rfl (by decide) (by omega) (by decide) (by decide) (by decide) rfl (rp_size hR) ?_
  refine fm_iload_n hc d_Mo_moveAgent_93 rfl rfl ?_
  refine fm_iald (j := ga) (len := 98) hc 0 d_Mo_moveAgent_94 (by decide) (by omega) (by decide) rfl (by omega) (by decide) ?_
  refine fm_top (congrArg Value.int ((p1_other (by decide)).trans ((p1_other (by decide)).trans ((p1_other (by decide)).trans ((p1_other (by decide)).trans ((p1_other (by decide)).trans ((p1_other (by decide)).trans ((p1_other (by decide)).trans (rfl))))))))) ?_
  refine fm_iast (j := gb) (len := 98) (v := M.1 612 ga) hc 0 d_Mo_moveAgent_95 (by decide) (by omega) (by decide) rfl (by omega) (by decide) ?_
  refine fm_aload_n hc d_Mo_moveAgent_96 rfl rfl ?_
  refine fm_getR (k := 29) (q := 614) hc K_Mo d_Mo_moveAgent_97 q_914 rfl (by decide) (by omega) (by decide) (by decide) (by decide) rfl (rp_pairs hR) ?_
  refine fm_iload_n hc d_Mo_moveAgent_100 rfl rfl ?_
  refine fm_aload_n hc d_Mo_moveAgent_101 rfl rfl ?_
  refine fm_getR (k := 29) (q := 614) hc K_Mo d_Mo_moveAgent_102 q_914 rfl (by decide) (by omega) (by decide) (by decide) (by decide) rfl (rp_pairs hR) ?_
  refine fm_iload_n hc d_Mo_moveAgent_105 rfl rfl ?_
  refine fm_iald (j := ga) (len := 98) hc 0 d_Mo_moveAgent_106 (by decide) (by omega) (by decide) rfl (by omega) (by decide) ?_
  refine fm_top (congrArg Value.int ((p1_other (by decide)).trans ((p1_other (by decide)).trans ((p1_other (by decide)).trans ((p1_other (by decide)).trans ((p1_other (by decide)).trans ((p1_other (by decide)).trans ((p1_other (by decide)).trans ((p1_other (by decide)).trans (rfl)))))))))) ?_
  refine fm_iast (j := gb) (len := 98) (v := M.1 614 ga) hc 0 d_Mo_moveAgent_107 (by decide) (by omega) (by decide) rfl (by omega) (by decide) ?_
  refine fm_iconst (v := nI 0) hc d_Mo_moveAgent_108 rfl ?_
  refine fm_istore_n (lv' := [(3, .int (nI 0)), (0, .ref 586), (1, .int (nI ga)), (2, .int (nI gb))]) hc d_Mo_moveAgent_109 rfl (by decide) rfl ?_
  have w1 : ∀ k, 1 ≤ k → k ≤ 10 → k ≠ 9 → (fm_put1 (fm_put1 (fm_put1 (fm_put1 (fm_put1 (fm_put1 (fm_put1 (fm_put1 (fm_put1 (M) 605 gb (M.1 605 ga)) 606 gb (M.1 606 ga)) 607 gb (M.1 607 ga)) 608 gb (M.1 608 ga)) 609 gb (M.1 609 ga)) 610 gb (M.1 610 ga)) 611 gb (M.1 611 ga)) 612 gb (M.1 612 ga)) 614 gb (M.1 614 ga)).1 (604 + k) gb = M.1 (604 + k) ga := by
    intro k k1 k2 k3
    rcases (show k = 1 ∨ k = 2 ∨ k = 3 ∨ k = 4 ∨ k = 5 ∨ k = 6 ∨ k = 7 ∨ k = 8 ∨ k = 10 by omega) with rfl | rfl | rfl | rfl | rfl | rfl | rfl | rfl | rfl
    · exact (p1_other (by decide)).trans ((p1_other (by decide)).trans ((p1_other (by decide)).trans ((p1_other (by decide)).trans ((p1_other (by decide)).trans ((p1_other (by decide)).trans ((p1_other (by decide)).trans ((p1_other (by decide)).trans (p1_same _ _ _ _))))))))
    · exact (p1_other (by decide)).trans ((p1_other (by decide)).trans ((p1_other (by decide)).trans ((p1_other (by decide)).trans ((p1_other (by decide)).trans ((p1_other (by decide)).trans ((p1_other (by decide)).trans (p1_same _ _ _ _)))))))
    · exact (p1_other (by decide)).trans ((p1_other (by decide)).trans ((p1_other (by decide)).trans ((p1_other (by decide)).trans ((p1_other (by decide)).trans ((p1_other (by decide)).trans (p1_same _ _ _ _))))))
    · exact (p1_other (by decide)).trans ((p1_other (by decide)).trans ((p1_other (by decide)).trans ((p1_other (by decide)).trans ((p1_other (by decide)).trans (p1_same _ _ _ _)))))
    · exact (p1_other (by decide)).trans ((p1_other (by decide)).trans ((p1_other (by decide)).trans ((p1_other (by decide)).trans (p1_same _ _ _ _))))
    · exact (p1_other (by decide)).trans ((p1_other (by decide)).trans ((p1_other (by decide)).trans (p1_same _ _ _ _)))
    · exact (p1_other (by decide)).trans ((p1_other (by decide)).trans (p1_same _ _ _ _))
    · exact (p1_other (by decide)).trans (p1_same _ _ _ _)
    · exact p1_same _ _ _ _
  have w2 : mv_R gb M (fm_put1 (fm_put1 (fm_put1 (fm_put1 (fm_put1 (fm_put1 (fm_put1 (fm_put1 (fm_put1 (M) 605 gb (M.1 605 ga)) 606 gb (M.1 606 ga)) 607 gb (M.1 607 ga)) 608 gb (M.1 608 ga)) 609 gb (M.1 609 ga)) 610 gb (M.1 610 ga)) 611 gb (M.1 611 ga)) 612 gb (M.1 612 ga)) 614 gb (M.1 614 ga)) := by
    refine ⟨rfl, fun o j h => ?_, fun o j _ _ => rfl⟩
    have key : ∀ (M0 : fm_M) (a : Nat) (v : Int32), 605 ≤ a → a ≤ 614 → (fm_put1 M0 a gb v).1 o j = M0.1 o j := by
      intro M0 a v h1 h2
      by_cases e : o = a
      · subst e
        exact p1_at (fun q => h ⟨h1, h2, q⟩)
      · exact p1_other e
    rw [key _ _ _ (by decide) (by decide), key _ _ _ (by decide) (by decide), key _ _ _ (by decide) (by decide), key _ _ _ (by decide) (by decide), key _ _ _ (by decide) (by decide), key _ _ _ (by decide) (by decide), key _ _ _ (by decide) (by decide), key _ _ _ (by decide) (by decide), key _ _ _ (by decide) (by decide)]
  revert w1 w2
  generalize fm_put1 (fm_put1 (fm_put1 (fm_put1 (fm_put1 (fm_put1 (fm_put1 (fm_put1 (fm_put1 (M) 605 gb (M.1 605 ga)) 606 gb (M.1 606 ga)) 607 gb (M.1 607 ga)) 608 gb (M.1 608 ga)) 609 gb (M.1 609 ga)) 610 gb (M.1 610 ga)) 611 gb (M.1 611 ga)) 612 gb (M.1 612 ga)) 614 gb (M.1 614 ga) = Mw
  intro w1 w2
  refine fm_loopI (N := 6) (lv := fun k => [(3, .int (nI k)), (0, .ref 586), (1, .int (nI ga)), (2, .int (nI gb))]) (I := fun k M' => M'.1 = Mw.1 ∧ (∀ q, q < k → M'.2.1 613 (6 * gb + q) = M.2.1 613 (6 * ga + q)) ∧ mv_R gb M M') (fun k Mk hk hI ih => ?_) (fun Mk hI => ?_) ?_
  · obtain ⟨i1, i2, i3⟩ := hI
    have hrd : Mk.2.1 613 (6 * ga + k) = M.2.1 613 (6 * ga + k) := i3.2.2 _ _ (by omega) (by omega)
    refine fm_iload_n hc d_Mo_moveAgent_110 rfl rfl ?_
    refine fm_bipush (v := nI 6) hc d_Mo_moveAgent_111 rfl ?_
    refine fm_icmp_ge (tgt := 144) hc d_Mo_moveAgent_113 rfl (fun g => absurd g (hnle (a := 6) (c := k) hk (by omega))) (fun _ => ?_)
    refine fm_aload_n hc d_Mo_moveAgent_116 rfl rfl ?_
    refine fm_getR (k := 28) (q := 613) hc K_Mo d_Mo_moveAgent_117 q_913 rfl (by decide) (by omega) (by decide) (by decide) (by decide) rfl (rp_stack (mvR_RP i3 hR)) ?_
    refine fm_bipush (v := nI 6) hc d_Mo_moveAgent_120 rfl ?_
    refine fm_iload_n hc d_Mo_moveAgent_122 rfl rfl ?_
    refine fm_imul hc d_Mo_moveAgent_123 ?_
    refine fm_top (congrArg Value.int (pk_mul 6 gb)) ?_
    refine fm_iload_n hc d_Mo_moveAgent_124 rfl rfl ?_
    refine fm_iadd hc d_Mo_moveAgent_125 ?_
    refine fm_top (congrArg Value.int (nI_add (6 * gb) k)) ?_
    refine fm_aload_n hc d_Mo_moveAgent_126 rfl rfl ?_
    refine fm_getR (k := 28) (q := 613) hc K_Mo d_Mo_moveAgent_127 q_913 rfl (by decide) (by omega) (by decide) (by decide) (by decide) rfl (rp_stack (mvR_RP i3 hR)) ?_
    refine fm_bipush (v := nI 6) hc d_Mo_moveAgent_130 rfl ?_
    refine fm_iload_n hc d_Mo_moveAgent_132 rfl rfl ?_
    refine fm_imul hc d_Mo_moveAgent_133 ?_
    refine fm_top (congrArg Value.int (pk_mul 6 ga)) ?_
    refine fm_iload_n hc d_Mo_moveAgent_134 rfl rfl ?_
    refine fm_iadd hc d_Mo_moveAgent_135 ?_
    refine fm_top (congrArg Value.int (nI_add (6 * ga) k)) ?_
    refine fm_lald (j := (6 * ga) + k) (len := 588) hc 3 d_Mo_moveAgent_136 (by decide) (by omega) (by decide) rfl (by omega) (by decide) ?_
    refine fm_top (congrArg Value.long hrd) ?_
    refine fm_last (j := (6 * gb) + k) (len := 588) (v := M.2.1 613 (6 * ga + k)) hc 3 d_Mo_moveAgent_137 (by decide) (by omega) (by decide) rfl (by omega) (by decide) ?_
    refine fm_iinc (v := nI (k + 1)) (lv' := [(3, .int (nI (k + 1))), (0, .ref 586), (1, .int (nI ga)), (2, .int (nI gb))]) hc d_Mo_moveAgent_138 rfl (nI_1 k) (by decide) rfl ?_
    refine fm_goto (tgt := 110) hc d_Mo_moveAgent_141 rfl ?_
    refine ih _ ⟨i1, fun q hq => ?_, i3.1, i3.2.1, fun o j h1 h2 => ?_⟩
    · by_cases e : q = k
      · subst e
        exact p2_same _ _ _ _
      · exact (p2_at (by omega)).trans (i2 q (by omega))
    · by_cases e : o = 613
      · subst e
        exact (p2_at (by omega)).trans (i3.2.2 _ _ h1 h2)
      · exact (p2_other e).trans (i3.2.2 _ _ h1 h2)
  · obtain ⟨i1, i2, i3⟩ := hI
    refine fm_iload_n hc d_Mo_moveAgent_110 rfl rfl ?_
    refine fm_bipush (v := nI 6) hc d_Mo_moveAgent_111 rfl ?_
    refine fm_icmp_ge (tgt := 144) hc d_Mo_moveAgent_113 rfl (fun _ => ?_) (fun g => absurd (by decide) g)
    refine fm_iconst (v := nI 0) hc d_Mo_moveAgent_144 rfl ?_
    refine fm_istore_n (lv' := [(3, .int (nI 0)), (0, .ref 586), (1, .int (nI ga)), (2, .int (nI gb))]) hc d_Mo_moveAgent_145 rfl (by decide) rfl ?_
    refine fm_loopI (N := 9) (lv := fun k => [(3, .int (nI k)), (0, .ref 586), (1, .int (nI ga)), (2, .int (nI gb))]) (I := fun k M' => M'.1 = Mw.1 ∧ (∀ q, q < 6 → M'.2.1 613 (6 * gb + q) = M.2.1 613 (6 * ga + q)) ∧ (∀ q, q < k → M'.2.1 615 (9 * gb + q) = M.2.1 615 (9 * ga + q) ∧ M'.2.1 616 (9 * gb + q) = M.2.1 616 (9 * ga + q)) ∧ mv_R gb M M') (fun k Mk hk hI ih => ?_) (fun Mk hI => ?_) ?_
    · obtain ⟨j1, j2, j3, j4⟩ := hI
      have hRk := mvR_RP j4 hR
      have hrd1 : Mk.2.1 615 (9 * ga + k) = M.2.1 615 (9 * ga + k) := j4.2.2 _ _ (by omega) (by omega)
      have hrd2 : (fm_put2 Mk 615 (9 * gb + k) (M.2.1 615 (9 * ga + k))).2.1 616 (9 * ga + k) = M.2.1 616 (9 * ga + k) := (p2_other (by decide)).trans (j4.2.2 _ _ (by omega) (by omega))
      refine fm_iload_n hc d_Mo_moveAgent_146 rfl rfl ?_
      refine fm_bipush (v := nI 9) hc d_Mo_moveAgent_147 rfl ?_
      refine fm_icmp_ge (tgt := 202) hc d_Mo_moveAgent_149 rfl (fun g => absurd g (hnle (a := 9) (c := k) hk (by omega))) (fun _ => ?_)
      refine fm_aload_n hc d_Mo_moveAgent_152 rfl rfl ?_
      refine fm_getR (k := 30) (q := 615) hc K_Mo d_Mo_moveAgent_153 q_915 rfl (by decide) (by omega) (by decide) (by decide) (by decide) rfl (rp_first hRk) ?_
      refine fm_bipush (v := nI 9) hc d_Mo_moveAgent_156 rfl ?_
      refine fm_iload_n hc d_Mo_moveAgent_158 rfl rfl ?_
      refine fm_imul hc d_Mo_moveAgent_159 ?_
      refine fm_top (congrArg Value.int (pk_mul 9 gb)) ?_
      refine fm_iload_n hc d_Mo_moveAgent_160 rfl rfl ?_
      refine fm_iadd hc d_Mo_moveAgent_161 ?_
      refine fm_top (congrArg Value.int (nI_add (9 * gb) k)) ?_
      refine fm_aload_n hc d_Mo_moveAgent_162 rfl rfl ?_
      refine fm_getR (k := 30) (q := 615) hc K_Mo d_Mo_moveAgent_163 q_915 rfl (by decide) (by omega) (by decide) (by decide) (by decide) rfl (rp_first hRk) ?_
      refine fm_bipush (v := nI 9) hc d_Mo_moveAgent_166 rfl ?_
      refine fm_iload_n hc d_Mo_moveAgent_168 rfl rfl ?_
      refine fm_imul hc d_Mo_moveAgent_169 ?_
      refine fm_top (congrArg Value.int (pk_mul 9 ga)) ?_
      refine fm_iload_n hc d_Mo_moveAgent_170 rfl rfl ?_
      refine fm_iadd hc d_Mo_moveAgent_171 ?_
      refine fm_top (congrArg Value.int (nI_add (9 * ga) k)) ?_
      refine fm_lald (j := (9 * ga) + k) (len := 882) hc 3 d_Mo_moveAgent_172 (by decide) (by omega) (by decide) rfl (by omega) (by decide) ?_
      refine fm_top (congrArg Value.long hrd1) ?_
      refine fm_last (j := (9 * gb) + k) (len := 882) (v := M.2.1 615 (9 * ga + k)) hc 3 d_Mo_moveAgent_173 (by decide) (by omega) (by decide) rfl (by omega) (by decide) ?_
      refine fm_aload_n hc d_Mo_moveAgent_174 rfl rfl ?_
      refine fm_getR (k := 31) (q := 616) hc K_Mo d_Mo_moveAgent_175 q_916 rfl (by decide) (by omega) (by decide) (by decide) (by decide) rfl (rp_second hRk) ?_
      refine fm_bipush (v := nI 9) hc d_Mo_moveAgent_178 rfl ?_
      refine fm_iload_n hc d_Mo_moveAgent_180 rfl rfl ?_
      refine fm_imul hc d_Mo_moveAgent_181 ?_
      refine fm_top (congrArg Value.int (pk_mul 9 gb)) ?_
      refine fm_iload_n hc d_Mo_moveAgent_182 rfl rfl ?_
      refine fm_iadd hc d_Mo_moveAgent_183 ?_
      refine fm_top (congrArg Value.int (nI_add (9 * gb) k)) ?_
      refine fm_aload_n hc d_Mo_moveAgent_184 rfl rfl ?_
      refine fm_getR (k := 31) (q := 616) hc K_Mo d_Mo_moveAgent_185 q_916 rfl (by decide) (by omega) (by decide) (by decide) (by decide) rfl (rp_second hRk) ?_
      refine fm_bipush (v := nI 9) hc d_Mo_moveAgent_188 rfl ?_
      refine fm_iload_n hc d_Mo_moveAgent_190 rfl rfl ?_
      refine fm_imul hc d_Mo_moveAgent_191 ?_
      refine fm_top (congrArg Value.int (pk_mul 9 ga)) ?_
      refine fm_iload_n hc d_Mo_moveAgent_192 rfl rfl ?_
      refine fm_iadd hc d_Mo_moveAgent_193 ?_
      refine fm_top (congrArg Value.int (nI_add (9 * ga) k)) ?_
      refine fm_lald (j := (9 * ga) + k) (len := 882) hc 3 d_Mo_moveAgent_194 (by decide) (by omega) (by decide) rfl (by omega) (by decide) ?_
      refine fm_top (congrArg Value.long hrd2) ?_
      refine fm_last (j := (9 * gb) + k) (len := 882) (v := M.2.1 616 (9 * ga + k)) hc 3 d_Mo_moveAgent_195 (by decide) (by omega) (by decide) rfl (by omega) (by decide) ?_
      refine fm_iinc (v := nI (k + 1)) (lv' := [(3, .int (nI (k + 1))), (0, .ref 586), (1, .int (nI ga)), (2, .int (nI gb))]) hc d_Mo_moveAgent_196 rfl (nI_1 k) (by decide) rfl ?_
      refine fm_goto (tgt := 146) hc d_Mo_moveAgent_199 rfl ?_
      refine ih _ ⟨j1, fun q hq => (p2_other (by decide)).trans ((p2_other (by decide)).trans (j2 q hq)), fun q hq => ?_, j4.1, j4.2.1, fun o j h1 h2 => ?_⟩
      · by_cases e : q = k
        · subst e
          exact ⟨(p2_other (by decide)).trans (p2_same _ _ _ _), p2_same _ _ _ _⟩
        · have g := j3 q (by omega)
          exact ⟨(p2_other (by decide)).trans ((p2_at (by omega)).trans g.1), (p2_at (by omega)).trans ((p2_other (by decide)).trans g.2)⟩
      · have g := j4.2.2 _ _ h1 h2
        by_cases e : o = 616
        · subst e
          exact (p2_at (by omega)).trans ((p2_other (by decide)).trans g)
        · by_cases e2 : o = 615
          · subst e2
            exact (p2_other e).trans ((p2_at (by omega)).trans g)
          · exact (p2_other e).trans ((p2_other e2).trans g)
    · obtain ⟨j1, j2, j3, j4⟩ := hI
      refine fm_iload_n hc d_Mo_moveAgent_146 rfl rfl ?_
      refine fm_bipush (v := nI 9) hc d_Mo_moveAgent_147 rfl ?_
      refine fm_icmp_ge (tgt := 202) hc d_Mo_moveAgent_149 rfl (fun _ => ?_) (fun g => absurd (by decide) g)
      exact fm_vret hc hr d_Mo_moveAgent_202 (Nat.le_refl _) (Nat.le_refl _) ⟨rfl, rfl, ⟨fun k a1 a2 a3 => by rw [j1]; exact w1 k a1 a2 a3, j2, j3⟩, j4⟩
    · exact ⟨i1, i2, fun q hq => absurd hq (Nat.not_lt_zero q), i3⟩
  · exact ⟨rfl, fun q hq => absurd hq (Nat.not_lt_zero q), w2⟩
