/-! THE REFERENCE: moveMemory; checkpoint, start entire -/
/-- row c of memory u lies at memory v -/
def mm_C (u v c : Nat) (M M' : fm_M) : Prop := (∀ k, 597 ≤ k → k ≤ 602 → M'.1 k (8 * v + c) = M.1 k (8 * u + c)) ∧ (∀ i, i < 16 → M'.1 603 (16 * (8 * v + c) + i) = M.1 603 (16 * (8 * u + c) + i)) ∧ mv_C (8 * u + c) (8 * v + c) M M'
theorem hrM_mm {u v : Nat} {M M' : fm_M} {m : am_T} (w : am_wfs m) (c : ∀ a, a < 8 → mm_C u v a M M') (h : hr_M M (8 * u) m) : hr_M M' (8 * v) m := by
  obtain ⟨S, K, O, T, G, H, V, D⟩ := m
  obtain ⟨h1, h2, h3, h4, h5, h6, h7, h8, h9⟩ := h
  refine ⟨fun a ha => ((c a ha).1 _ (by decide) (by decide)).trans (h1 a ha), fun a ha hs => ((c a ha).1 _ (by decide) (by decide)).trans (h2 a ha hs), fun a ha => ((c a ha).1 _ (by decide) (by decide)).trans (h3 a ha), fun a ha => ((c a ha).1 _ (by decide) (by decide)).trans (h4 a ha), fun a ha => ((c a ha).1 _ (by decide) (by decide)).trans (h5 a ha), fun a ha => ((c a ha).1 _ (by decide) (by decide)).trans (h6 a ha), fun a i ha hi => ((c a ha).2.1 i hi).trans (h7 a i ha hi), fun a ha => ?_, fun a ha hs => ?_⟩
  · rw [show M'.1 611 (8 * v + a) = M.1 611 (8 * u + a) from (c a ha).2.2.1 7 (by decide) (by decide) (by decide)]
    exact h8 a ha
  · obtain ⟨g, hg⟩ := h9 a ha hs
    exact ⟨g, hrG_mv (w.2 a ha hs).1 hg (c a ha).2.2⟩
theorem frR_mv {b0 gb : Nat} {M M' : fm_M} (h1 : b0 ≤ gb ∧ gb < b0 + 8) (f : mv_R gb M M') : fr_R b0 M M' := ⟨f.1, fun o j a b c d e g k => f.2.1 o j (by omega), fun o j a b c d => f.2.2 o j (by omega) (by omega)⟩
/-- what was moved stays as later rows are written -/
theorem mmC_st {u v c k : Nat} {M M1 M2 : fm_M} (hc : c < k) (e1 : ∀ q j, ¬ (597 ≤ q ∧ q ≤ 602 ∧ j = 8 * v + k) → ¬ (q = 603 ∧ 16 * (8 * v + k) ≤ j ∧ j < 16 * (8 * v + k) + 16) → ¬ (605 ≤ q ∧ q ≤ 614 ∧ j = 8 * v + k) → M2.1 q j = M1.1 q j) (e2 : ∀ q j, ¬ (q = 613 ∧ 6 * (8 * v + k) ≤ j ∧ j < 6 * (8 * v + k) + 6) → ¬ ((q = 615 ∨ q = 616) ∧ 9 * (8 * v + k) ≤ j ∧ j < 9 * (8 * v + k) + 9) → M2.2.1 q j = M1.2.1 q j) (h : mm_C u v c M M1) : mm_C u v c M M2 := by
  obtain ⟨h1, h2, h3, h4, h5⟩ := h
  exact ⟨fun q a b => (e1 _ _ (by omega) (by omega) (by omega)).trans (h1 q a b), fun i hi => (e1 _ _ (by omega) (by omega) (by omega)).trans (h2 i hi), fun q a b d => (e1 _ _ (by omega) (by omega) (by omega)).trans (h3 q a b d), fun i hi => (e2 _ _ (by omega) (by omega)).trans (h4 i hi), fun i hi => ⟨(e2 _ _ (by omega) (by omega)).trans (h5 i hi).1, (e2 _ _ (by omega) (by omega)).trans (h5 i hi).2⟩⟩
theorem rc_moveM {l : Launch} {b : Nat} {x : Nat → Nat} {D : va_G} {dA : Nat → ClassId} {u v n : Nat} {m0 : am_T} {M : fm_M} (hn : 629 ≤ n) (hR : fm_RP M) (hu : u < 12) (hv : v < 12) (huv : u ≠ v) (h : hr_M M (8 * u) m0) (hw : am_wfs m0) : Met l y_Mo_moveMemory (Cond.code y_Mo_moveMemory b_Mo_moveMemory 7 none :: fm_T0) ({ frames := 1, cells := 0, slots := 0, locals := 60 }) (fm_Pc fm_lay fm_nf fm_fk fm_cl b x D dA (fm_tys dA) (fm_EX b x) false [.ref 586, .int (nI u), .int (nI v)] n M) (fm_Qc fm_lay fm_nf fm_fk fm_cl b x D dA (fun r n' M' => r = none ∧ n' = n ∧ hr_M M' (8 * v) m0 ∧ fr_R (8 * v) M M')) 0 0 (fm_A b) := by
  refine fm_enter (by decide) (Nat.le_of_ble_eq_true rfl) ?_
  intro p e s m args below meth c9 hc hr hnm hex htg
  refine fm_iconst (v := nI 0) hc d_Mo_moveMemory_0 rfl ?_
  refine fm_istore_n (lv' := [(3, .int (nI 0)), (0, .ref 586), (1, .int (nI u)), (2, .int (nI v))]) hc d_Mo_moveMemory_1 rfl (by decide) rfl ?_
  have h8 : ∀ a, a < 8 → M.1 611 (8 * u + a) = 0 ∨ M.1 611 (8 * u + a) = 1 := by
    obtain ⟨S, K, O, T, G, H, V, D⟩ := m0
    exact h.2.2.2.2.2.2.2.1
  refine fm_loopI (N := 8) (lv := fun k => [(3, .int (nI k)), (0, .ref 586), (1, .int (nI u)), (2, .int (nI v))]) (I := fun k M' => (∀ c, c < k → mm_C u v c M M') ∧ fr_R (8 * v) M M') (fun k Mk hk hI ih => ?_) (fun Mk hI => ?_) ⟨fun c hc => absurd hc (Nat.not_lt_zero c), frR_rf _ _⟩
  · obtain ⟨i1, i2⟩ := hI
    have hRk : fm_RP Mk := frR_RP i2 hR
    have eu : ∀ q, 597 ≤ q → q ≤ 614 → q ≠ 603 → q ≠ 604 → Mk.1 q (8 * u + k) = M.1 q (8 * u + k) := fun q a b c d => i2.2.1 q _ (by omega) (by omega) (by omega) d (by omega) (by omega) (by omega)
    have eu3 : ∀ i, i < 16 → Mk.1 603 (16 * (8 * u + k) + i) = M.1 603 (16 * (8 * u + k) + i) := fun i hi => i2.2.1 _ _ (by omega) (by omega) (by omega) (by decide) (by decide) (by decide) (by omega)
    have eu6 : ∀ i, i < 6 → Mk.2.1 613 (6 * (8 * u + k) + i) = M.2.1 613 (6 * (8 * u + k) + i) := fun i hi => i2.2.2 _ _ (by omega) (by omega) (by decide) (by decide)
    have eu9 : ∀ i, i < 9 → Mk.2.1 615 (9 * (8 * u + k) + i) = M.2.1 615 (9 * (8 * u + k) + i) ∧ Mk.2.1 616 (9 * (8 * u + k) + i) = M.2.1 616 (9 * (8 * u + k) + i) := fun i hi => ⟨i2.2.2 _ _ (by omega) (by omega) (by decide) (by decide), i2.2.2 _ _ (by omega) (by omega) (by decide) (by decide)⟩
    refine fm_iload_n hc d_Mo_moveMemory_2 rfl rfl ?_
    refine fm_bipush (v := nI 8) hc d_Mo_moveMemory_3 rfl ?_
    refine fm_icmp_ge (tgt := 164) hc d_Mo_moveMemory_5 rfl (fun g => absurd g (hnle (a := 8) (c := k) hk (by omega))) (fun _ => ?_)
    refine fm_bipush (v := nI 8) hc d_Mo_moveMemory_8 rfl ?_
    refine fm_iload_n hc d_Mo_moveMemory_10 rfl rfl ?_
    refine fm_imul hc d_Mo_moveMemory_11 ?_
    refine fm_top (congrArg Value.int (pk_mul 8 u)) ?_
    refine fm_iload_n hc d_Mo_moveMemory_12 rfl rfl ?_
    refine fm_iadd hc d_Mo_moveMemory_13 ?_
    refine fm_top (congrArg Value.int (nI_add (8 * u) k)) ?_
    refine fm_istore (lv' := [(4, .int (nI ((8 * u) + k))), (3, .int (nI k)), (0, .ref 586), (1, .int (nI u)), (2, .int (nI v))]) hc d_Mo_moveMemory_14 (by decide) rfl ?_
    refine fm_bipush (v := nI 8) hc d_Mo_moveMemory_16 rfl ?_
    refine fm_iload_n hc d_Mo_moveMemory_18 rfl rfl ?_
    refine fm_imul hc d_Mo_moveMemory_19 ?_
    refine fm_top (congrArg Value.int (pk_mul 8 v)) ?_
    refine fm_iload_n hc d_Mo_moveMemory_20 rfl rfl ?_
    refine fm_iadd hc d_Mo_moveMemory_21 ?_
    refine fm_top (congrArg Value.int (nI_add (8 * v) k)) ?_
    refine fm_istore (lv' := [(5, .int (nI ((8 * v) + k))), (4, .int (nI ((8 * u) + k))), (3, .int (nI k)), (0, .ref 586), (1, .int (nI u)), (2, .int (nI v))]) hc d_Mo_moveMemory_22 (by decide) rfl ?_
    refine fm_aload_n hc d_Mo_moveMemory_24 rfl rfl ?_
    refine fm_iload hc d_Mo_moveMemory_25 rfl ?_
    refine fm_iload hc d_Mo_moveMemory_27 rfl ?_
    refine fm_callV (av := [.int (nI ((8 * u) + k)), .int (nI ((8 * v) + k))]) (rest := []) (ob := 586) (ci := 11) (r0 := ("AgentNetModel", F_Mo, 51)) (y := y_Mo_moveAgent) (bytes := b_Mo_moveAgent) hc fm_T0_good (fm_EX_st b x) hex q_1150 q_13 q_1147 q_1149 qs_Mo_moveAgent pd_Mo_moveAgent (by decide) (by omega) (by decide) (by decide) rfl rfl (rc_move hn hRk (by omega) (by omega) (by omega) (by rw [eu 611 (by decide) (by decide) (by decide) (by decide)]; exact h8 k hk)) ⟨rfl, rfl, Nat.le_of_ble_eq_true rfl, Nat.le_of_ble_eq_true rfl⟩ ⟨Nat.le_of_ble_eq_true rfl, Nat.le_of_ble_eq_true rfl⟩ d_Mo_moveMemory_29 (Nat.le_of_ble_eq_true rfl) (fun r n2 M2 hp => ?_)
    obtain ⟨rfl, hq1, r1, r2⟩ := hp
    replace hq1 := hq1.symm
    subst hq1
    revert r1 r2
    generalize M2 = Ma
    intro r1 r2
    have hRa : fm_RP Ma := fun q hq => by rw [r2.1]; exact hRk q hq
    have ea : ∀ q, 597 ≤ q → q ≤ 602 → Ma.1 q (8 * u + k) = M.1 q (8 * u + k) := fun q a b => (r2.2.1 _ _ (by omega)).trans (eu q a (by omega) (by omega) (by omega))
    refine fm_cnt (z' := (0, 0)) rfl (fm_st (st' := []) rfl ?_)
    refine fm_aload_n hc d_Mo_moveMemory_32 rfl rfl ?_
    refine fm_getR (k := 12) (q := 597) hc K_Mo d_Mo_moveMemory_33 q_897 rfl (by decide) (by omega) (by decide) (by decide) (by decide) rfl (rp_slot hRa) ?_
    refine fm_iload hc d_Mo_moveMemory_36 rfl ?_
    refine fm_aload_n hc d_Mo_moveMemory_38 rfl rfl ?_
    refine fm_getR (k := 12) (q := 597) hc K_Mo d_Mo_moveMemory_39 q_897 rfl (by decide) (by omega) (by decide) (by decide) (by decide) rfl (rp_slot hRa) ?_
    refine fm_iload hc d_Mo_moveMemory_42 rfl ?_
    refine fm_iald (j := (8 * u) + k) (len := 96) hc 0 d_Mo_moveMemory_44 (by decide) (by omega) (by decide) rfl (by omega) (by decide) ?_
    refine fm_top (congrArg Value.int (show Ma.1 597 ((8 * u) + k) = M.1 597 (8 * u + k) from (ea 597 (by decide) (by decide)))) ?_
    refine fm_iast (j := (8 * v) + k) (len := 96) (v := M.1 597 (8 * u + k)) hc 0 d_Mo_moveMemory_45 (by decide) (by omega) (by decide) rfl (by omega) (by decide) ?_
    refine fm_aload_n hc d_Mo_moveMemory_46 rfl rfl ?_
    refine fm_getR (k := 13) (q := 598) hc K_Mo d_Mo_moveMemory_47 q_898 rfl (by decide) (by omega) (by decide) (by decide) (by decide) rfl (rp_goal hRa) ?_
    refine fm_iload hc d_Mo_moveMemory_50 rfl ?_
    refine fm_aload_n hc d_Mo_moveMemory_52 rfl rfl ?_
    refine fm_getR (k := 13) (q := 598) hc K_Mo d_Mo_moveMemory_53 q_898 rfl (by decide) (by omega) (by decide) (by decide) (by decide) rfl (rp_goal hRa) ?_
    refine fm_iload hc d_Mo_moveMemory_56 rfl ?_
    refine fm_iald (j := (8 * u) + k) (len := 96) hc 0 d_Mo_moveMemory_58 (by decide) (by omega) (by decide) rfl (by omega) (by decide) ?_
    refine fm_top (congrArg Value.int (show (fm_put1 Ma 597 ((8 * v) + k) (M.1 597 (8 * u + k))).1 598 ((8 * u) + k) = M.1 598 (8 * u + k) from ((p1_other (by decide)).trans (ea 598 (by decide) (by decide))))) ?_
    refine fm_iast (j := (8 * v) + k) (len := 96) (v := M.1 598 (8 * u + k)) hc 0 d_Mo_moveMemory_59 (by decide) (by omega) (by decide) rfl (by omega) (by decide) ?_
    refine fm_aload_n hc d_Mo_moveMemory_60 rfl rfl ?_
    refine fm_getR (k := 14) (q := 599) hc K_Mo d_Mo_moveMemory_61 q_899 rfl (by decide) (by omega) (by decide) (by decide) (by decide) rfl (rp_known hRa) ?_
    refine fm_iload hc d_Mo_moveMemory_64 rfl ?_
    refine fm_aload_n hc d_Mo_moveMemory_66 rfl rfl ?_
    refine fm_getR (k := 14) (q := 599) hc K_Mo d_Mo_moveMemory_67 q_899 rfl (by decide) (by omega) (by decide) (by decide) (by decide) rfl (rp_known hRa) ?_
    refine fm_iload hc d_Mo_moveMemory_70 rfl ?_
    refine fm_iald (j := (8 * u) + k) (len := 96) hc 0 d_Mo_moveMemory_72 (by decide) (by omega) (by decide) rfl (by omega) (by decide) ?_
    refine fm_top (congrArg Value.int (show (fm_put1 (fm_put1 Ma 597 ((8 * v) + k) (M.1 597 (8 * u + k))) 598 ((8 * v) + k) (M.1 598 (8 * u + k))).1 599 ((8 * u) + k) = M.1 599 (8 * u + k) from ((p1_other (by decide)).trans ((p1_other (by decide)).trans (ea 599 (by decide) (by decide)))))) ?_
    refine fm_iast (j := (8 * v) + k) (len := 96) (v := M.1 599 (8 * u + k)) hc 0 d_Mo_moveMemory_73 (by decide) (by omega) (by decide) rfl (by omega) (by decide) ?_
    refine fm_aload_n hc d_Mo_moveMemory_74 rfl rfl ?_
    refine fm_getR (k := 15) (q := 600) hc K_Mo d_Mo_moveMemory_75 q_900 rfl (by decide) (by omega) (by decide) (by decide) (by decide) rfl (rp_owed hRa) ?_
    refine fm_iload hc d_Mo_moveMemory_78 rfl ?_
    refine fm_aload_n hc d_Mo_moveMemory_80 rfl rfl ?_
    refine fm_getR (k := 15) (q := 600) hc K_Mo d_Mo_moveMemory_81 q_900 rfl (by decide) (by omega) (by decide) (by decide) (by decide) rfl (rp_owed hRa) ?_
    refine fm_iload hc d_Mo_moveMemory_84 rfl ?_
    refine fm_iald (j := (8 * u) + k) (len := 96) hc 0 d_Mo_moveMemory_86 (by decide) (by omega) (by decide) rfl (by omega) (by decide) ?_
    refine fm_top (congrArg Value.int (show (fm_put1 (fm_put1 (fm_put1 Ma 597 ((8 * v) + k) (M.1 597 (8 * u + k))) 598 ((8 * v) + k) (M.1 598 (8 * u + k))) 599 ((8 * v) + k) (M.1 599 (8 * u + k))).1 600 ((8 * u) + k) = M.1 600 (8 * u + k) from ((p1_other (by decide)).trans ((p1_other (by decide)).trans ((p1_other (by decide)).trans (ea 600 (by decide) (by decide))))))) ?_
    refine fm_iast (j := (8 * v) + k) (len := 96) (v := M.1 600 (8 * u + k)) hc 0 d_Mo_moveMemory_87 (by decide) (by omega) (by decide) rfl (by omega) (by decide) ?_
    refine fm_aload_n hc d_Mo_moveMemory_88 rfl rfl ?_
    refine fm_getR (k := 16) (q := 601) hc K_Mo d_Mo_moveMemory_89 q_901 rfl (by decide) (by omega) (by decide) (by decide) (by decide) rfl (rp_note hRa) ?_
    refine fm_iload hc d_Mo_moveMemory_92 rfl ?_
    refine fm_aload_n hc d_Mo_moveMemory_94 rfl rfl ?_
    refine fm_getR (k := 16) (q := 601) hc K_Mo d_Mo_moveMemory_95 q_901 rfl (by decide) (by omega) (by decide) (by decide) (by decide) rfl (rp_note hRa) ?_
    refine fm_iload hc d_Mo_moveMemory_98 rfl ?_
    refine fm_iald (j := (8 * u) + k) (len := 96) hc 0 d_Mo_moveMemory_100 (by decide) (by omega) (by decide) rfl (by omega) (by decide) ?_
    refine fm_top (congrArg Value.int (show (fm_put1 (fm_put1 (fm_put1 (fm_put1 Ma 597 ((8 * v) + k) (M.1 597 (8 * u + k))) 598 ((8 * v) + k) (M.1 598 (8 * u + k))) 599 ((8 * v) + k) (M.1 599 (8 * u + k))) 600 ((8 * v) + k) (M.1 600 (8 * u + k))).1 601 ((8 * u) + k) = M.1 601 (8 * u + k) from ((p1_other (by decide)).trans ((p1_other (by decide)).trans ((p1_other (by decide)).trans ((p1_other (by decide)).trans (ea 601 (by decide) (by decide)))))))) ?_
    refine fm_iast (j := (8 * v) + k) (len := 96) (v := M.1 601 (8 * u + k)) hc 0 d_Mo_moveMemory_101 (by decide) (by omega) (by decide) rfl (by omega) (by decide) ?_
    refine fm_aload_n hc d_Mo_moveMemory_102 rfl rfl ?_
    refine fm_getR (k := 17) (q := 602) hc K_Mo d_Mo_moveMemory_103 q_902 rfl (by decide) (by omega) (by decide) (by decide) (by decide) rfl (rp_told hRa) ?_
    refine fm_iload hc d_Mo_moveMemory_106 rfl ?_
    refine fm_aload_n hc d_Mo_moveMemory_108 rfl rfl ?_
    refine fm_getR (k := 17) (q := 602) hc K_Mo d_Mo_moveMemory_109 q_902 rfl (by decide) (by omega) (by decide) (by decide) (by decide) rfl (rp_told hRa) ?_
    refine fm_iload hc d_Mo_moveMemory_112 rfl ?_
    refine fm_iald (j := (8 * u) + k) (len := 96) hc 0 d_Mo_moveMemory_114 (by decide) (by omega) (by decide) rfl (by omega) (by decide) ?_
    refine fm_top (congrArg Value.int (show (fm_put1 (fm_put1 (fm_put1 (fm_put1 (fm_put1 Ma 597 ((8 * v) + k) (M.1 597 (8 * u + k))) 598 ((8 * v) + k) (M.1 598 (8 * u + k))) 599 ((8 * v) + k) (M.1 599 (8 * u + k))) 600 ((8 * v) + k) (M.1 600 (8 * u + k))) 601 ((8 * v) + k) (M.1 601 (8 * u + k))).1 602 ((8 * u) + k) = M.1 602 (8 * u + k) from ((p1_other (by decide)).trans ((p1_other (by decide)).trans ((p1_other (by decide)).trans ((p1_other (by decide)).trans ((p1_other (by decide)).trans (ea 602 (by decide) (by decide))))))))) ?_
    refine fm_iast (j := (8 * v) + k) (len := 96) (v := M.1 602 (8 * u + k)) hc 0 d_Mo_moveMemory_115 (by decide) (by omega) (by decide) rfl (by omega) (by decide) ?_
    refine fm_iconst (v := nI 0) hc d_Mo_moveMemory_116 rfl ?_
    refine fm_istore (lv' := [(6, .int (nI 0)), (5, .int (nI ((8 * v) + k))), (4, .int (nI ((8 * u) + k))), (3, .int (nI k)), (0, .ref 586), (1, .int (nI u)), (2, .int (nI v))]) hc d_Mo_moveMemory_117 (by decide) rfl ?_
    have b1 : ∀ q, 597 ≤ q → q ≤ 602 → (fm_put1 (fm_put1 (fm_put1 (fm_put1 (fm_put1 (fm_put1 Ma 597 (8 * v + k) (M.1 597 (8 * u + k))) 598 (8 * v + k) (M.1 598 (8 * u + k))) 599 (8 * v + k) (M.1 599 (8 * u + k))) 600 (8 * v + k) (M.1 600 (8 * u + k))) 601 (8 * v + k) (M.1 601 (8 * u + k))) 602 (8 * v + k) (M.1 602 (8 * u + k))).1 q (8 * v + k) = M.1 q (8 * u + k) := by
      intro q a b
      rcases (show q = 597 ∨ q = 598 ∨ q = 599 ∨ q = 600 ∨ q = 601 ∨ q = 602 by omega) with rfl | rfl | rfl | rfl | rfl | rfl <;> simp [fm_put1, va_up]
    have b2 : ∀ q j, ¬ (597 ≤ q ∧ q ≤ 602 ∧ j = 8 * v + k) → (fm_put1 (fm_put1 (fm_put1 (fm_put1 (fm_put1 (fm_put1 Ma 597 (8 * v + k) (M.1 597 (8 * u + k))) 598 (8 * v + k) (M.1 598 (8 * u + k))) 599 (8 * v + k) (M.1 599 (8 * u + k))) 600 (8 * v + k) (M.1 600 (8 * u + k))) 601 (8 * v + k) (M.1 601 (8 * u + k))) 602 (8 * v + k) (M.1 602 (8 * u + k))).1 q j = Ma.1 q j := by
      intro q j a
      by_cases g : j = 8 * v + k
      · rw [p1_other (by omega), p1_other (by omega), p1_other (by omega), p1_other (by omega), p1_other (by omega), p1_other (by omega)]
      · rw [p1_k g, p1_k g, p1_k g, p1_k g, p1_k g, p1_k g]
    refine fm_loopI (N := 16) (lv := fun i => [(6, .int (nI i)), (5, .int (nI ((8 * v) + k))), (4, .int (nI ((8 * u) + k))), (3, .int (nI k)), (0, .ref 586), (1, .int (nI u)), (2, .int (nI v))]) (I := fun i M' => (∀ c, c < i → M'.1 603 (16 * (8 * v + k) + c) = M.1 603 (16 * (8 * u + k) + c)) ∧ M'.2 = Ma.2 ∧ ∀ q j, ¬ (q = 603 ∧ 16 * (8 * v + k) ≤ j ∧ j < 16 * (8 * v + k) + 16) → M'.1 q j = (fm_put1 (fm_put1 (fm_put1 (fm_put1 (fm_put1 (fm_put1 Ma 597 (8 * v + k) (M.1 597 (8 * u + k))) 598 (8 * v + k) (M.1 598 (8 * u + k))) 599 (8 * v + k) (M.1 599 (8 * u + k))) 600 (8 * v + k) (M.1 600 (8 * u + k))) 601 (8 * v + k) (M.1 601 (8 * u + k))) 602 (8 * v + k) (M.1 602 (8 * u + k))).1 q j) (fun i Mi hi hI ihi => ?_) (fun Mi hI => ?_) ⟨fun c hc => absurd hc (Nat.not_lt_zero c), rfl, fun _ _ _ => rfl⟩
    · obtain ⟨j1, j2, j3⟩ := hI
      have hRi : fm_RP Mi := fun q hq => by rw [j2]; exact hRa q hq
      have ei : Mi.1 603 (16 * (8 * u + k) + i) = M.1 603 (16 * (8 * u + k) + i) := (j3 _ _ (by omega)).trans ((b2 _ _ (by omega)).trans ((r2.2.1 _ _ (by omega)).trans (eu3 i hi)))
      refine fm_iload hc d_Mo_moveMemory_119 rfl ?_
      refine fm_bipush (v := nI 16) hc d_Mo_moveMemory_121 rfl ?_
      refine fm_icmp_ge (tgt := 158) hc d_Mo_moveMemory_123 rfl (fun g => absurd g (hnle (a := 16) (c := i) hi (by omega))) (fun _ => ?_)
      refine fm_aload_n hc d_Mo_moveMemory_126 rfl rfl ?_
      refine fm_getR (k := 18) (q := 603) hc K_Mo d_Mo_moveMemory_127 q_903 rfl (by decide) (by omega) (by decide) (by decide) (by decide) rfl (rp_words hRi) ?_
      refine fm_bipush (v := nI 16) hc d_Mo_moveMemory_130 rfl ?_
      refine fm_iload hc d_Mo_moveMemory_132 rfl ?_
      refine fm_imul hc d_Mo_moveMemory_134 ?_
      refine fm_top (congrArg Value.int (pk_mul 16 ((8 * v) + k))) ?_
      refine fm_iload hc d_Mo_moveMemory_135 rfl ?_
      refine fm_iadd hc d_Mo_moveMemory_137 ?_
      refine fm_top (congrArg Value.int (nI_add (16 * ((8 * v) + k)) i)) ?_
      refine fm_aload_n hc d_Mo_moveMemory_138 rfl rfl ?_
      refine fm_getR (k := 18) (q := 603) hc K_Mo d_Mo_moveMemory_139 q_903 rfl (by decide) (by omega) (by decide) (by decide) (by decide) rfl (rp_words hRi) ?_
      refine fm_bipush (v := nI 16) hc d_Mo_moveMemory_142 rfl ?_
      refine fm_iload hc d_Mo_moveMemory_144 rfl ?_
      refine fm_imul hc d_Mo_moveMemory_146 ?_
      refine fm_top (congrArg Value.int (pk_mul 16 ((8 * u) + k))) ?_
      refine fm_iload hc d_Mo_moveMemory_147 rfl ?_
      refine fm_iadd hc d_Mo_moveMemory_149 ?_
      refine fm_top (congrArg Value.int (nI_add (16 * ((8 * u) + k)) i)) ?_
      refine fm_iald (j := (16 * ((8 * u) + k)) + i) (len := 1536) hc 0 d_Mo_moveMemory_150 (by decide) (by omega) (by decide) rfl (by omega) (by decide) ?_
      refine fm_top (congrArg Value.int (show Mi.1 603 ((16 * ((8 * u) + k)) + i) = M.1 603 (16 * (8 * u + k) + i) from ei)) ?_
      refine fm_iast (j := (16 * ((8 * v) + k)) + i) (len := 1536) (v := M.1 603 (16 * (8 * u + k) + i)) hc 0 d_Mo_moveMemory_151 (by decide) (by omega) (by decide) rfl (by omega) (by decide) ?_
      refine fm_iinc (v := nI (i + 1)) (lv' := [(6, .int (nI (i + 1))), (5, .int (nI ((8 * v) + k))), (4, .int (nI ((8 * u) + k))), (3, .int (nI k)), (0, .ref 586), (1, .int (nI u)), (2, .int (nI v))]) hc d_Mo_moveMemory_152 rfl (nI_1 i) (by decide) rfl ?_
      refine fm_goto (tgt := 119) hc d_Mo_moveMemory_155 rfl ?_
      refine fm_dropl (lv' := [(6, .int (nI (i + 1))), (5, .int (nI ((8 * v) + k))), (4, .int (nI ((8 * u) + k))), (3, .int (nI k)), (0, .ref 586), (1, .int (nI u)), (2, .int (nI v))]) (by simp) ?_
      refine ihi _ ⟨fun c hc => ?_, j2, fun q j a => ?_⟩
      · by_cases g : c = i
        · subst g; exact p1_same _ _ _ _
        · exact (p1_at (by omega)).trans (j1 c (by omega))
      · by_cases g : q = 603
        · subst g; exact (p1_at (by omega)).trans (j3 _ _ a)
        · exact (p1_other g).trans (j3 _ _ a)
    · obtain ⟨j1, j2, j3⟩ := hI
      have z1 : ∀ q j, ¬ (597 ≤ q ∧ q ≤ 602 ∧ j = 8 * v + k) → ¬ (q = 603 ∧ 16 * (8 * v + k) ≤ j ∧ j < 16 * (8 * v + k) + 16) → Mi.1 q j = Ma.1 q j := fun q j a c => (j3 q j c).trans (b2 q j a)
      have z2 : ∀ q j, ¬ (597 ≤ q ∧ q ≤ 602 ∧ j = 8 * v + k) → ¬ (q = 603 ∧ 16 * (8 * v + k) ≤ j ∧ j < 16 * (8 * v + k) + 16) → ¬ (605 ≤ q ∧ q ≤ 614 ∧ j = 8 * v + k) → Mi.1 q j = Mk.1 q j := fun q j a c d => (z1 q j a c).trans (r2.2.1 q j d)
      have z3 : ∀ q j, ¬ (q = 613 ∧ 6 * (8 * v + k) ≤ j ∧ j < 6 * (8 * v + k) + 6) → ¬ ((q = 615 ∨ q = 616) ∧ 9 * (8 * v + k) ≤ j ∧ j < 9 * (8 * v + k) + 9) → Mi.2.1 q j = Mk.2.1 q j := fun q j a c => by rw [j2]; exact r2.2.2 q j a c
      have fin : (∀ c, c < k + 1 → mm_C u v c M Mi) ∧ fr_R (8 * v) M Mi := by
        refine ⟨fun c hc => ?_, frR_tr i2 ⟨by rw [j2]; exact r2.1, fun q j a c d e f g h => z2 q j (by omega) (by omega) (by omega), fun q j a c d e => z3 q j (by omega) (by omega)⟩⟩
        by_cases g : c = k
        · subst g
          refine ⟨fun q a b => (j3 _ _ (by omega)).trans (b1 q a b), j1, fun q a b d => ?_, fun i hi => ?_, fun i hi => ?_⟩
          · exact (z1 _ _ (by omega) (by omega)).trans ((r1.1 q a b d).trans (eu _ (by omega) (by omega) (by omega) (by omega)))
          · rw [j2]; exact (r1.2.1 i hi).trans (eu6 i hi)
          · rw [j2]; exact ⟨(r1.2.2 i hi).1.trans (eu9 i hi).1, (r1.2.2 i hi).2.trans (eu9 i hi).2⟩
        · exact mmC_st (k := k) (by omega) z2 z3 (i1 c (by omega))
      refine fm_iload hc d_Mo_moveMemory_119 rfl ?_
      refine fm_bipush (v := nI 16) hc d_Mo_moveMemory_121 rfl ?_
      refine fm_icmp_ge (tgt := 158) hc d_Mo_moveMemory_123 rfl (fun _ => ?_) (fun g => absurd (by decide) g)
      refine fm_iinc (v := nI (k + 1)) (lv' := [(3, .int (nI (k + 1))), (6, .int (nI 16)), (5, .int (nI ((8 * v) + k))), (4, .int (nI ((8 * u) + k))), (0, .ref 586), (1, .int (nI u)), (2, .int (nI v))]) hc d_Mo_moveMemory_158 rfl (nI_1 k) (by decide) rfl ?_
      refine fm_goto (tgt := 2) hc d_Mo_moveMemory_161 rfl ?_
      refine fm_dropl (lv' := [(3, .int (nI (k + 1))), (0, .ref 586), (1, .int (nI u)), (2, .int (nI v))]) (by simp) ?_
      exact ih _ fin
  · obtain ⟨i1, i2⟩ := hI
    refine fm_iload_n hc d_Mo_moveMemory_2 rfl rfl ?_
    refine fm_bipush (v := nI 8) hc d_Mo_moveMemory_3 rfl ?_
    refine fm_icmp_ge (tgt := 164) hc d_Mo_moveMemory_5 rfl (fun _ => ?_) (fun g => absurd (by decide) g)
    exact fm_vret hc hr d_Mo_moveMemory_164 (Nat.le_refl _) (Nat.le_refl _) ⟨rfl, rfl, hrM_mm hw i1 h, i2⟩
/-- as fk_R, but for one cell -/
def fq_R (b0 q0 j : Nat) (M M' : fm_M) : Prop := M'.2.2 = M.2.2 ∧ (∀ i, i = 4 ∨ i = 0 → M'.1 586 i = M.1 586 i) ∧ (∀ q i, 587 ≤ q → q ≤ 596 → ¬ (q = q0 ∧ i = j) → M'.1 q i = M.1 q i) ∧ (∀ b1 m, (b0 + 8 ≤ b1 ∨ b1 + 8 ≤ b0) → am_wfs m → hr_M M b1 m → hr_M M' b1 m) ∧ (∀ ms, hr_W M ms → hr_W M' ms) ∧ (∀ q, (q < 586 ∨ 628 < q) → M'.1 q = M.1 q ∧ M'.2.1 q = M.2.1 q)
theorem fqR_rf (b0 q0 j : Nat) (M : fm_M) : fq_R b0 q0 j M M := ⟨rfl, fun _ _ => rfl, fun _ _ _ _ _ => rfl, fun _ _ _ _ h => h, fun _ h => h, fun _ _ => ⟨rfl, rfl⟩⟩
theorem fqR_tr {b0 q0 j : Nat} {M M1 M2 : fm_M} (h : fq_R b0 q0 j M M1) (g : fq_R b0 q0 j M1 M2) : fq_R b0 q0 j M M2 := ⟨g.1.trans h.1, fun i e => (g.2.1 i e).trans (h.2.1 i e), fun q i a c d => (g.2.2.1 q i a c d).trans (h.2.2.1 q i a c d), fun b1 m a c d => g.2.2.2.1 b1 m a c (h.2.2.2.1 b1 m a c d), fun ms d => g.2.2.2.2.1 ms (h.2.2.2.2.1 ms d), fun q a => ⟨(g.2.2.2.2.2 q a).1.trans (h.2.2.2.2.2 q a).1, (g.2.2.2.2.2 q a).2.trans (h.2.2.2.2.2 q a).2⟩⟩
theorem fqR_RP {b0 q0 j : Nat} {M M' : fm_M} (h : fq_R b0 q0 j M M') (g : fm_RP M) : fm_RP M' := fun q hq => by rw [h.1]; exact g q hq
theorem fqR_R {b0 q0 j : Nat} {M M' : fm_M} (f : fr_R b0 M M') : fq_R b0 q0 j M M' := ⟨f.1, fun i e => f.2.1 586 i (by omega) (by omega) (by omega) (by decide) (by decide) (by decide) (by omega), fun q i a c d => f.2.1 _ _ (by omega) (by omega) (by omega) (by omega) (by omega) (by omega) (by omega), fun b1 m a c d => hrM_R a c f d, fun ms d => hrW_R f d, fun q a => ⟨funext fun i => f.2.1 _ _ (by omega) (by omega) (by omega) (by omega) (by omega) (by omega) (by omega), funext fun i => f.2.2 _ _ (by omega) (by omega) (by omega) (by omega)⟩⟩
theorem fqR_p {b0 q0 j o i : Nat} {M : fm_M} {v : Int32} (h : o = q0 ∧ i = j ∧ 587 ≤ q0 ∧ q0 ≤ 596) : fq_R b0 q0 j M (fm_put1 M o i v) := ⟨rfl, fun k e => p1_other (by omega), fun q k a c d => by
  by_cases g : q = o
  · exact p1_k (by omega)
  · exact p1_other g, fun b1 m a c d => hrM_o (by omega) d, fun ms d => hrW_of (fun q k a c => p1_other (by omega)) (p1_other (by omega)) d, fun q a => ⟨funext fun k => p1_other (by omega), rfl⟩⟩
theorem r_checkpoint_go {l : Launch} {b : Nat} {x : Nat → Nat} {D : va_G} {dA : Nat → ClassId} {j n : Nat} {m0 : am_T} {M : fm_M} (hn : 629 ≤ n) (hR : fm_RP M) (hj : j < 4) (hup : ¬ M.1 595 j = 0) (hl : M.1 596 j = nI 0) (h : hr_M M (24 * j) m0) (hw : am_wfs m0) : Met l y_Mo_checkpoint (Cond.code y_Mo_checkpoint b_Mo_checkpoint 3 (some .int) :: fm_T0) ({ frames := 5, cells := 0, slots := 0, locals := 200 }) (fm_Pc fm_lay fm_nf fm_fk fm_cl b x D dA (fm_tys dA) (fm_EX b x) false [.ref 586, .int (nI j)] n M) (fm_Qc fm_lay fm_nf fm_fk fm_cl b x D dA (fun r n' M' => r = some (.int (nI (am_fil m0.1 8 + 1))) ∧ n' = n ∧ hr_M M' (24 * j) m0 ∧ hr_M M' (24 * j + 8) m0 ∧ M'.1 596 j = nI (am_fil m0.1 8 + 1) ∧ fq_R (24 * j + 8) 596 j (fm_put1 M 586 0 (nI 0)) M')) 0 0 (fm_A b) := by
  refine fm_enter (by decide) (Nat.le_of_ble_eq_true rfl) ?_
  intro p e s m args below meth c9 hc hr hnm hex htg
  refine fm_aload_n hc d_Mo_checkpoint_0 rfl rfl ?_
  refine fm_aload_n hc d_Mo_checkpoint_1 rfl rfl ?_
  refine fm_iload_n hc d_Mo_checkpoint_2 rfl rfl ?_
  refine fm_iconst (v := nI 1) hc d_Mo_checkpoint_3 rfl ?_
  refine fm_callV (av := [.int (nI j), .int (nI 1)]) (rest := [.ref 586]) (ob := 586) (ci := 11) (r0 := ("AgentNetModel", F_Mo, 51)) (y := y_Mo_wrongAt) (bytes := b_Mo_wrongAt) hc fm_T0_good (fm_EX_st b x) hex q_1078 q_13 q_1075 q_1077 qs_Mo_wrongAt pd_Mo_wrongAt (by decide) (by omega) (by decide) (by decide) rfl rfl (c_wrongAt_fine hn hR hj hup) ⟨rfl, rfl, Nat.le_of_ble_eq_true rfl, Nat.le_of_ble_eq_true rfl⟩ ⟨Nat.le_of_ble_eq_true rfl, Nat.le_of_ble_eq_true rfl⟩ d_Mo_checkpoint_4 (Nat.le_of_ble_eq_true rfl) (fun r n2 M2 hp => ?_)
  obtain ⟨rfl, hq1, hq2⟩ := hp
  replace hq1 := hq1.symm
  replace hq2 := hq2.symm
  subst hq1 hq2
  refine fm_cnt (z' := (0, 0)) rfl (fm_st (st' := [.int (nI 0), .ref 586]) rfl ?_)
  refine fm_putI (k := 0) (v := nI 0) hc K_Mo d_Mo_checkpoint_7 q_885 rfl (by decide) (by omega) (by decide) (by decide) (by decide) rfl rfl rfl rfl ?_
  refine fm_mem (M' := fm_put1 M 586 0 (nI 0)) rfl rfl ?_
  refine fm_aload_n hc d_Mo_checkpoint_10 rfl rfl ?_
  refine fm_aload_n hc d_Mo_checkpoint_11 rfl rfl ?_
  refine fm_getI (k := 0) hc K_Mo d_Mo_checkpoint_12 q_885 rfl (by decide) (by omega) (by decide) (by decide) (by decide) rfl ?_
  refine fm_top (congrArg Value.int (show (fm_put1 M 586 0 (nI 0)).1 586 0 = nI 0 from (p1_same _ _ _ _))) ?_
  refine fm_if_ne (tgt := 31) hc d_Mo_checkpoint_15 rfl (fun g => absurd (by decide) g) (fun _ => ?_)
  refine fm_aload_n hc d_Mo_checkpoint_18 rfl rfl ?_
  refine fm_getR (k := 11) (q := 596) hc K_Mo d_Mo_checkpoint_19 q_896 rfl (by decide) (by omega) (by decide) (by decide) (by decide) rfl (rp_left hR) ?_
  refine fm_iload_n hc d_Mo_checkpoint_22 rfl rfl ?_
  refine fm_iald (j := j) (len := 4) hc 0 d_Mo_checkpoint_23 (by decide) (by omega) (by decide) rfl (by omega) (by decide) ?_
  refine fm_top (congrArg Value.int (show (fm_put1 M 586 0 (nI 0)).1 596 j = nI 0 from ((p1_other (by decide)).trans hl))) ?_
  refine fm_if_le (tgt := 31) hc d_Mo_checkpoint_24 rfl (fun _ => ?_) (fun g => absurd (by decide) g)
  refine fm_aload_n hc d_Mo_checkpoint_31 rfl rfl ?_
  refine fm_getI (k := 0) hc K_Mo d_Mo_checkpoint_32 q_885 rfl (by decide) (by omega) (by decide) (by decide) (by decide) rfl ?_
  refine fm_top (congrArg Value.int (show (fm_put1 M 586 0 (nI 0)).1 586 0 = nI 0 from (p1_same _ _ _ _))) ?_
  refine fm_putI (k := 0) (v := nI 0) hc K_Mo d_Mo_checkpoint_35 q_885 rfl (by decide) (by omega) (by decide) (by decide) (by decide) rfl rfl rfl rfl ?_
  refine fm_mem (M' := fm_put1 M 586 0 (nI 0)) rfl (p1_id (p1_same _ _ _ _)) ?_
  refine fm_aload_n hc d_Mo_checkpoint_38 rfl rfl ?_
  refine fm_getI (k := 0) hc K_Mo d_Mo_checkpoint_39 q_885 rfl (by decide) (by omega) (by decide) (by decide) (by decide) rfl ?_
  refine fm_top (congrArg Value.int (show (fm_put1 M 586 0 (nI 0)).1 586 0 = nI 0 from (p1_same _ _ _ _))) ?_
  refine fm_if_le (tgt := 47) hc d_Mo_checkpoint_42 rfl (fun _ => ?_) (fun g => absurd (by decide) g)
  refine fm_aload_n hc d_Mo_checkpoint_47 rfl rfl ?_
  refine fm_iconst (v := nI 3) hc d_Mo_checkpoint_48 rfl ?_
  refine fm_iload_n hc d_Mo_checkpoint_49 rfl rfl ?_
  refine fm_imul hc d_Mo_checkpoint_50 ?_
  refine fm_top (congrArg Value.int (pk_mul 3 j)) ?_
  refine fm_iconst (v := nI 3) hc d_Mo_checkpoint_51 rfl ?_
  refine fm_iload_n hc d_Mo_checkpoint_52 rfl rfl ?_
  refine fm_imul hc d_Mo_checkpoint_53 ?_
  refine fm_top (congrArg Value.int (pk_mul 3 j)) ?_
  refine fm_iconst (v := nI 1) hc d_Mo_checkpoint_54 rfl ?_
  refine fm_iadd hc d_Mo_checkpoint_55 ?_
  refine fm_top (congrArg Value.int (nI_add (3 * j) 1)) ?_
  refine fm_callV (av := [.int (nI (3 * j)), .int (nI ((3 * j) + 1))]) (rest := []) (ob := 586) (ci := 11) (r0 := ("AgentNetModel", F_Mo, 51)) (y := y_Mo_moveMemory) (bytes := b_Mo_moveMemory) hc fm_T0_good (fm_EX_st b x) hex q_1198 q_13 q_1195 q_1197 qs_Mo_moveMemory pd_Mo_moveMemory (by decide) (by omega) (by decide) (by decide) rfl rfl (rc_moveM (u := 3 * j) (v := 3 * j + 1) (M := fm_put1 M 586 0 (nI 0)) hn (fun q hq => hR q hq) (by omega) (by omega) (by omega) (by rw [show 8 * (3 * j) = 24 * j by omega]; exact hrM_o (by decide) h) hw) ⟨rfl, rfl, Nat.le_of_ble_eq_true rfl, Nat.le_of_ble_eq_true rfl⟩ ⟨Nat.le_of_ble_eq_true rfl, Nat.le_of_ble_eq_true rfl⟩ d_Mo_checkpoint_56 (Nat.le_of_ble_eq_true rfl) (fun r n2 M2 hp => ?_)
  obtain ⟨rfl, hq1, r1, r2⟩ := hp
  replace hq1 := hq1.symm
  subst hq1
  revert r1 r2
  generalize M2 = Ma
  intro r1 r2
  rw [show 8 * (3 * j + 1) = 24 * j + 8 by omega] at r1 r2
  have hRa : fm_RP Ma := frR_RP r2 (fun q hq => hR q hq)
  refine fm_cnt (z' := (0, 0)) rfl (fm_st (st' := []) rfl ?_)
  refine fm_aload_n hc d_Mo_checkpoint_59 rfl rfl ?_
  refine fm_getR (k := 11) (q := 596) hc K_Mo d_Mo_checkpoint_60 q_896 rfl (by decide) (by omega) (by decide) (by decide) (by decide) rfl (rp_left hRa) ?_
  refine fm_iload_n hc d_Mo_checkpoint_63 rfl rfl ?_
  refine fm_iconst (v := nI 1) hc d_Mo_checkpoint_64 rfl ?_
  refine fm_iast (j := j) (len := 4) (v := nI 1) hc 0 d_Mo_checkpoint_65 (by decide) (by omega) (by decide) rfl (by omega) (by decide) ?_
  refine fm_bipush (v := nI 24) hc d_Mo_checkpoint_66 rfl ?_
  refine fm_iload_n hc d_Mo_checkpoint_68 rfl rfl ?_
  refine fm_imul hc d_Mo_checkpoint_69 ?_
  refine fm_top (congrArg Value.int (pk_mul 24 j)) ?_
  refine fm_istore_n (lv' := [(2, .int (nI (24 * j))), (0, .ref 586), (1, .int (nI j))]) hc d_Mo_checkpoint_70 rfl (by decide) rfl ?_
  have hS4 : ∀ a, a < 8 → m0.1 a ≤ 4 := hw.1
  have q0 : fq_R (24 * j + 8) 596 j (fm_put1 M 586 0 (nI 0)) Ma := fqR_R r2
  have hm : hr_M Ma (24 * j) m0 := hrM_R (by omega) hw r2 (hrM_o (by decide) h)
  have hm1 : ∀ a, a < 8 → Ma.1 597 (24 * j + a) = nI (m0.1 a) := hm.1
  refine fm_dropl (lv' := [(2, .int (nI (24 * j + 0))), (0, .ref 586), (1, .int (nI j))]) (by simp) ?_
  refine fm_loopI (N := 8) (lv := fun k => [(2, .int (nI (24 * j + k))), (0, .ref 586), (1, .int (nI j))]) (I := fun k M' => M' = fm_put1 Ma 596 j (nI (am_fil m0.1 k + 1))) (fun k Mk hk hI ih => ?_) (fun Mk hI => ?_) rfl
  · subst hI
    have hRk : fm_RP (fm_put1 Ma 596 j (nI (am_fil m0.1 k + 1))) := fun q hq => hRa q hq
    have hsl : (fm_put1 Ma 596 j (nI (am_fil m0.1 k + 1))).1 597 (24 * j + k) = nI (m0.1 k) := (p1_other (by decide)).trans (hm1 k hk)
    have s4 := hS4 k hk
    by_cases g1 : m0.1 k = 0
    · have e : am_fil m0.1 (k + 1) = am_fil m0.1 k := by
        show am_fil m0.1 k + (if m0.1 k = 0 then 0 else 1) = _
        rw [if_pos g1, Nat.add_zero]
      rw [e] at ih
      refine fm_iload_n hc d_Mo_checkpoint_71 rfl rfl ?_
      refine fm_bipush (v := nI 24) hc d_Mo_checkpoint_72 rfl ?_
      refine fm_iload_n hc d_Mo_checkpoint_74 rfl rfl ?_
      refine fm_imul hc d_Mo_checkpoint_75 ?_
      refine fm_top (congrArg Value.int (pk_mul 24 j)) ?_
      refine fm_bipush (v := nI 8) hc d_Mo_checkpoint_76 rfl ?_
      refine fm_iadd hc d_Mo_checkpoint_78 ?_
      refine fm_top (congrArg Value.int (nI_add (24 * j) 8)) ?_
      refine fm_icmp_ge (tgt := 120) hc d_Mo_checkpoint_79 rfl (fun g => absurd g (hnleB (a := 24 * j + 8) (c := 24 * j + k) (by omega) (by omega))) (fun _ => ?_)
      refine fm_aload_n hc d_Mo_checkpoint_82 rfl rfl ?_
      refine fm_getR (k := 11) (q := 596) hc K_Mo d_Mo_checkpoint_83 q_896 rfl (by decide) (by omega) (by decide) (by decide) (by decide) rfl (rp_left hRk) ?_
      refine fm_iload_n hc d_Mo_checkpoint_86 rfl rfl ?_
      refine fm_aload_n hc d_Mo_checkpoint_87 rfl rfl ?_
      refine fm_getR (k := 12) (q := 597) hc K_Mo d_Mo_checkpoint_88 q_897 rfl (by decide) (by omega) (by decide) (by decide) (by decide) rfl (rp_slot hRk) ?_
      refine fm_iload_n hc d_Mo_checkpoint_91 rfl rfl ?_
      refine fm_iald (j := 24 * j + k) (len := 96) hc 0 d_Mo_checkpoint_92 (by decide) (by omega) (by decide) rfl (by omega) (by decide) ?_
      refine fm_top (congrArg Value.int (show (fm_put1 Ma 596 j (nI (am_fil m0.1 k + 1))).1 597 (24 * j + k) = nI (m0.1 k) from hsl)) ?_
      refine fm_if_le (tgt := 107) hc d_Mo_checkpoint_93 rfl (fun _ => ?_) (fun g => absurd (by rw [g1]; decide) g)
      refine fm_aload_n hc d_Mo_checkpoint_107 rfl rfl ?_
      refine fm_getR (k := 11) (q := 596) hc K_Mo d_Mo_checkpoint_108 q_896 rfl (by decide) (by omega) (by decide) (by decide) (by decide) rfl (rp_left hRk) ?_
      refine fm_iload_n hc d_Mo_checkpoint_111 rfl rfl ?_
      refine fm_iald (j := j) (len := 4) hc 0 d_Mo_checkpoint_112 (by decide) (by omega) (by decide) rfl (by omega) (by decide) ?_
      refine fm_top (congrArg Value.int (show (fm_put1 Ma 596 j (nI (am_fil m0.1 k + 1))).1 596 j = nI (am_fil m0.1 k + 1) from (p1_same _ _ _ _))) ?_
      refine fm_iast (j := j) (len := 4) (v := nI (am_fil m0.1 k + 1)) hc 0 d_Mo_checkpoint_113 (by decide) (by omega) (by decide) rfl (by omega) (by decide) ?_
      refine fm_mem (M' := fm_put1 Ma 596 j (nI (am_fil m0.1 k + 1))) rfl (p1_id (p1_same _ _ _ _)) ?_
      refine fm_iinc (v := nI (24 * j + k + 1)) (lv' := [(2, .int (nI (24 * j + k + 1))), (0, .ref 586), (1, .int (nI j))]) hc d_Mo_checkpoint_114 rfl (nI_1 (24 * j + k)) (by decide) rfl ?_
      refine fm_goto (tgt := 71) hc d_Mo_checkpoint_117 rfl ?_
      refine fm_dropl (lv' := [(2, .int (nI (24 * j + (k + 1)))), (0, .ref 586), (1, .int (nI j))]) (by simp [Nat.add_assoc]) ?_
      exact ih _ rfl
    · have e : am_fil m0.1 (k + 1) = am_fil m0.1 k + 1 := by
        show am_fil m0.1 k + (if m0.1 k = 0 then 0 else 1) = _
        rw [if_neg g1]
      rw [e] at ih
      refine fm_iload_n hc d_Mo_checkpoint_71 rfl rfl ?_
      refine fm_bipush (v := nI 24) hc d_Mo_checkpoint_72 rfl ?_
      refine fm_iload_n hc d_Mo_checkpoint_74 rfl rfl ?_
      refine fm_imul hc d_Mo_checkpoint_75 ?_
      refine fm_top (congrArg Value.int (pk_mul 24 j)) ?_
      refine fm_bipush (v := nI 8) hc d_Mo_checkpoint_76 rfl ?_
      refine fm_iadd hc d_Mo_checkpoint_78 ?_
      refine fm_top (congrArg Value.int (nI_add (24 * j) 8)) ?_
      refine fm_icmp_ge (tgt := 120) hc d_Mo_checkpoint_79 rfl (fun g => absurd g (hnleB (a := 24 * j + 8) (c := 24 * j + k) (by omega) (by omega))) (fun _ => ?_)
      refine fm_aload_n hc d_Mo_checkpoint_82 rfl rfl ?_
      refine fm_getR (k := 11) (q := 596) hc K_Mo d_Mo_checkpoint_83 q_896 rfl (by decide) (by omega) (by decide) (by decide) (by decide) rfl (rp_left hRk) ?_
      refine fm_iload_n hc d_Mo_checkpoint_86 rfl rfl ?_
      refine fm_aload_n hc d_Mo_checkpoint_87 rfl rfl ?_
      refine fm_getR (k := 12) (q := 597) hc K_Mo d_Mo_checkpoint_88 q_897 rfl (by decide) (by omega) (by decide) (by decide) (by decide) rfl (rp_slot hRk) ?_
      refine fm_iload_n hc d_Mo_checkpoint_91 rfl rfl ?_
      refine fm_iald (j := 24 * j + k) (len := 96) hc 0 d_Mo_checkpoint_92 (by decide) (by omega) (by decide) rfl (by omega) (by decide) ?_
      refine fm_top (congrArg Value.int (show (fm_put1 Ma 596 j (nI (am_fil m0.1 k + 1))).1 597 (24 * j + k) = nI (m0.1 k) from hsl)) ?_
      refine fm_if_le (tgt := 107) hc d_Mo_checkpoint_93 rfl (fun g => absurd g (fun q => g1 (by have := (nI_leI (a := m0.1 k) (b := 0) (by omega) (by decide)).mp q; omega))) (fun _ => ?_)
      refine fm_aload_n hc d_Mo_checkpoint_96 rfl rfl ?_
      refine fm_getR (k := 11) (q := 596) hc K_Mo d_Mo_checkpoint_97 q_896 rfl (by decide) (by omega) (by decide) (by decide) (by decide) rfl (rp_left hRk) ?_
      refine fm_iload_n hc d_Mo_checkpoint_100 rfl rfl ?_
      refine fm_iald (j := j) (len := 4) hc 0 d_Mo_checkpoint_101 (by decide) (by omega) (by decide) rfl (by omega) (by decide) ?_
      refine fm_top (congrArg Value.int (show (fm_put1 Ma 596 j (nI (am_fil m0.1 k + 1))).1 596 j = nI (am_fil m0.1 k + 1) from (p1_same _ _ _ _))) ?_
      refine fm_iconst (v := nI 1) hc d_Mo_checkpoint_102 rfl ?_
      refine fm_iadd hc d_Mo_checkpoint_103 ?_
      refine fm_top (congrArg Value.int (nI_add (am_fil m0.1 k + 1) 1)) ?_
      refine fm_goto (tgt := 113) hc d_Mo_checkpoint_104 rfl ?_
      refine fm_iast (j := j) (len := 4) (v := nI ((am_fil m0.1 k + 1) + 1)) hc 0 d_Mo_checkpoint_113 (by decide) (by omega) (by decide) rfl (by omega) (by decide) ?_
      refine fm_iinc (v := nI (24 * j + k + 1)) (lv' := [(2, .int (nI (24 * j + k + 1))), (0, .ref 586), (1, .int (nI j))]) hc d_Mo_checkpoint_114 rfl (nI_1 (24 * j + k)) (by decide) rfl ?_
      refine fm_goto (tgt := 71) hc d_Mo_checkpoint_117 rfl ?_
      refine fm_dropl (lv' := [(2, .int (nI (24 * j + (k + 1)))), (0, .ref 586), (1, .int (nI j))]) (by simp [Nat.add_assoc]) ?_
      exact ih _ (p1_twice _ _ _ _ _)
  · subst hI
    refine fm_iload_n hc d_Mo_checkpoint_71 rfl rfl ?_
    refine fm_bipush (v := nI 24) hc d_Mo_checkpoint_72 rfl ?_
    refine fm_iload_n hc d_Mo_checkpoint_74 rfl rfl ?_
    refine fm_imul hc d_Mo_checkpoint_75 ?_
    refine fm_top (congrArg Value.int (pk_mul 24 j)) ?_
    refine fm_bipush (v := nI 8) hc d_Mo_checkpoint_76 rfl ?_
    refine fm_iadd hc d_Mo_checkpoint_78 ?_
    refine fm_top (congrArg Value.int (nI_add (24 * j) 8)) ?_
    refine fm_icmp_ge (tgt := 120) hc d_Mo_checkpoint_79 rfl (fun _ => ?_) (fun g => absurd (nI_le (Nat.le_refl _) (by omega)) g)
    refine fm_aload_n hc d_Mo_checkpoint_120 rfl rfl ?_
    refine fm_getR (k := 11) (q := 596) hc K_Mo d_Mo_checkpoint_121 q_896 rfl (by decide) (by omega) (by decide) (by decide) (by decide) rfl (rp_left hRa) ?_
    refine fm_iload_n hc d_Mo_checkpoint_124 rfl rfl ?_
    refine fm_iald (j := j) (len := 4) hc 0 d_Mo_checkpoint_125 (by decide) (by omega) (by decide) rfl (by omega) (by decide) ?_
    refine fm_top (congrArg Value.int (show (fm_put1 Ma 596 j (nI (am_fil m0.1 8 + 1))).1 596 j = nI (am_fil m0.1 8 + 1) from (p1_same _ _ _ _))) ?_
    exact fm_iret hc hr d_Mo_checkpoint_126 (Nat.le_refl _) (Nat.le_refl _) ⟨rfl, rfl, hrM_o (by decide) hm, hrM_o (by decide) r1, p1_same _ _ _ _, fqR_tr q0 (fqR_p ⟨rfl, rfl, by decide, by decide⟩)⟩
theorem r_start_go {l : Launch} {b : Nat} {x : Nat → Nat} {D : va_G} {dA : Nat → ClassId} {j n : Nat} {m0 : am_T} {M : fm_M} (hn : 629 ≤ n) (hR : fm_RP M) (hj : j < 4) (hup : M.1 595 j = nI 0) (h : hr_M M (24 * j + 16) m0) (hw : am_wfs m0) : Met l y_Mo_start (Cond.code y_Mo_start b_Mo_start 2 (some .boolean) :: fm_T0) ({ frames := 5, cells := 0, slots := 0, locals := 200 }) (fm_Pc fm_lay fm_nf fm_fk fm_cl b x D dA (fm_tys dA) (fm_EX b x) false [.ref 586, .int (nI j)] n M) (fm_Qc fm_lay fm_nf fm_fk fm_cl b x D dA (fun r n' M' => r = some (.int (nI 1)) ∧ n' = n ∧ hr_M M' (24 * j) m0 ∧ hr_M M' (24 * j + 16) m0 ∧ M'.1 595 j = nI 1 ∧ fq_R (24 * j) 595 j (fm_put1 M 586 0 (nI 0)) M')) 0 0 (fm_A b) := by
  refine fm_enter (by decide) (Nat.le_of_ble_eq_true rfl) ?_
  intro p e s m args below meth c9 hc hr hnm hex htg
  refine fm_aload_n hc d_Mo_start_0 rfl rfl ?_
  refine fm_iload_n hc d_Mo_start_1 rfl rfl ?_
  refine fm_iconst (v := nI 0) hc d_Mo_start_2 rfl ?_
  refine fm_iconst (v := nI 3) hc d_Mo_start_3 rfl ?_
  refine fm_callS (av := [.int (nI j), .int (nI 0), .int (nI 3)]) (rest := [.ref 586]) (y := y_Mo_within) (bytes := b_Mo_within) hc fm_T0_good (fm_EX_st b x) hex q_1049 q_13 q_1047 q_1048 pd_Mo_within (c_Mo_within_ok (wi_of4 (in4_of hj))) ⟨rfl, rfl, Nat.le_of_ble_eq_true rfl, Nat.le_of_ble_eq_true rfl⟩ ⟨Nat.le_of_ble_eq_true rfl, Nat.le_of_ble_eq_true rfl⟩ d_Mo_start_4 (Nat.le_of_ble_eq_true rfl) (fun r n2 M2 hp => ?_)
  obtain ⟨rfl, hq1, hq2⟩ := hp
  replace hq1 := hq1.symm
  replace hq2 := hq2.symm
  subst hq1 hq2
  refine fm_cnt (z' := (0, 0)) rfl (fm_st (st' := [.int (nI 1), .ref 586]) rfl ?_)
  refine fm_if_eq (tgt := 14) hc d_Mo_start_7 rfl (fun g => absurd g (by decide)) (fun _ => ?_)
  refine fm_iconst (v := nI 0) hc d_Mo_start_10 rfl ?_
  refine fm_goto (tgt := 15) hc d_Mo_start_11 rfl ?_
  refine fm_putI (k := 0) (v := nI 0) hc K_Mo d_Mo_start_15 q_885 rfl (by decide) (by omega) (by decide) (by decide) (by decide) rfl rfl rfl rfl ?_
  refine fm_mem (M' := fm_put1 M 586 0 (nI 0)) rfl rfl ?_
  refine fm_aload_n hc d_Mo_start_18 rfl rfl ?_
  refine fm_getI (k := 0) hc K_Mo d_Mo_start_19 q_885 rfl (by decide) (by omega) (by decide) (by decide) (by decide) rfl ?_
  refine fm_top (congrArg Value.int (show (fm_put1 M 586 0 (nI 0)).1 586 0 = nI 0 from (p1_same _ _ _ _))) ?_
  refine fm_if_gt (tgt := 34) hc d_Mo_start_22 rfl (fun g => absurd g (by decide)) (fun _ => ?_)
  refine fm_aload_n hc d_Mo_start_25 rfl rfl ?_
  refine fm_getR (k := 10) (q := 595) hc K_Mo d_Mo_start_26 q_895 rfl (by decide) (by omega) (by decide) (by decide) (by decide) rfl (rp_up hR) ?_
  refine fm_iload_n hc d_Mo_start_29 rfl rfl ?_
  refine fm_zald (j := j) (len := 4) hc 1 d_Mo_start_30 (by decide) (by omega) (by decide) rfl (by omega) (by decide) ?_
  refine fm_top (congrArg Value.int (show (fm_put1 M 586 0 (nI 0)).1 595 j = nI 0 from ((p1_other (by decide)).trans hup))) ?_
  refine fm_if_eq (tgt := 36) hc d_Mo_start_31 rfl (fun _ => ?_) (fun g => absurd (by decide) g)
  refine fm_aload_n hc d_Mo_start_36 rfl rfl ?_
  refine fm_getR (k := 10) (q := 595) hc K_Mo d_Mo_start_37 q_895 rfl (by decide) (by omega) (by decide) (by decide) (by decide) rfl (rp_up hR) ?_
  refine fm_iload_n hc d_Mo_start_40 rfl rfl ?_
  refine fm_iconst (v := nI 1) hc d_Mo_start_41 rfl ?_
  refine fm_zast (j := j) (len := 4) (v := nI 1) hc 1 d_Mo_start_42 (by decide) (by omega) (by decide) rfl (by omega) (by decide) ?_
  refine fm_mem (M' := fm_put1 (fm_put1 M 586 0 (nI 0)) 595 j (nI 1)) rfl rfl ?_
  refine fm_aload_n hc d_Mo_start_43 rfl rfl ?_
  refine fm_iconst (v := nI 3) hc d_Mo_start_44 rfl ?_
  refine fm_iload_n hc d_Mo_start_45 rfl rfl ?_
  refine fm_imul hc d_Mo_start_46 ?_
  refine fm_top (congrArg Value.int (pk_mul 3 j)) ?_
  refine fm_iconst (v := nI 2) hc d_Mo_start_47 rfl ?_
  refine fm_iadd hc d_Mo_start_48 ?_
  refine fm_top (congrArg Value.int (nI_add (3 * j) 2)) ?_
  refine fm_iconst (v := nI 3) hc d_Mo_start_49 rfl ?_
  refine fm_iload_n hc d_Mo_start_50 rfl rfl ?_
  refine fm_imul hc d_Mo_start_51 ?_
  refine fm_top (congrArg Value.int (pk_mul 3 j)) ?_
  refine fm_callV (av := [.int (nI ((3 * j) + 2)), .int (nI (3 * j))]) (rest := []) (ob := 586) (ci := 11) (r0 := ("AgentNetModel", F_Mo, 51)) (y := y_Mo_moveMemory) (bytes := b_Mo_moveMemory) hc fm_T0_good (fm_EX_st b x) hex q_1198 q_13 q_1195 q_1197 qs_Mo_moveMemory pd_Mo_moveMemory (by decide) (by omega) (by decide) (by decide) rfl rfl (rc_moveM (u := 3 * j + 2) (v := 3 * j) (M := fm_put1 (fm_put1 M 586 0 (nI 0)) 595 j (nI 1)) hn (fun q hq => hR q hq) (by omega) (by omega) (by omega) (by rw [show 8 * (3 * j + 2) = 24 * j + 16 by omega]; exact hrM_o (by decide) (hrM_o (by decide) h)) hw) ⟨rfl, rfl, Nat.le_of_ble_eq_true rfl, Nat.le_of_ble_eq_true rfl⟩ ⟨Nat.le_of_ble_eq_true rfl, Nat.le_of_ble_eq_true rfl⟩ d_Mo_start_52 (Nat.le_of_ble_eq_true rfl) (fun r n2 M2 hp => ?_)
  obtain ⟨rfl, hq1, r1, r2⟩ := hp
  replace hq1 := hq1.symm
  subst hq1
  revert r1 r2
  generalize M2 = Ma
  intro r1 r2
  rw [show 8 * (3 * j) = 24 * j by omega] at r1 r2
  refine fm_cnt (z' := (0, 0)) rfl (fm_st (st' := []) rfl ?_)
  refine fm_iconst (v := nI 1) hc d_Mo_start_55 rfl ?_
  exact fm_zret (ty := .boolean) hc hr (by first | rfl | decide) d_Mo_start_56 (Nat.le_refl _) (Nat.le_refl _) ⟨rfl, rfl, r1, hrM_R (by omega) hw r2 (hrM_o (by decide) (hrM_o (by decide) h)), (congrFun ((fkR_R (by omega) r2).2.2.1 595 (by decide) (by decide)) j).trans (p1_same _ _ _ _), fqR_tr (fqR_p ⟨rfl, rfl, by decide, by decide⟩) (fqR_R r2)⟩
