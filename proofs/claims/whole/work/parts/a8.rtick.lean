/-! THE REFERENCE: tick entire -/
theorem r_tick_go {l : Launch} {b : Nat} {x : Nat → Nat} {D : va_G} {dA : Nat → ClassId} {j n : Nat} {m0 s0 : am_T} {ms : List mg_T} {M : fm_M} (hn : 629 ≤ n) (hR : fm_RP M) (hj : j < 4) (hu : ¬ M.1 595 j = 0) (h : hr_M M (24 * j) m0) (g : hr_M M (24 * j + 16) s0) (hw : hr_W M ms) (hW : am_W m0) (hsa : am_wfs s0) : Met l y_Mo_tick (Cond.code y_Mo_tick b_Mo_tick 4 (some .int) :: fm_T0) ({ frames := 5, cells := 0, slots := 0, locals := 200 }) (fm_Pc fm_lay fm_nf fm_fk fm_cl b x D dA (fm_tys dA) (fm_EX b x) false [.ref 586, .int (nI j)] n M) (fm_Qc fm_lay fm_nf fm_fk fm_cl b x D dA (fun r n' M' => r = some (.int (nI (ar_all j (am_pass m0) s0 ms 8).length)) ∧ n' = n ∧ hr_M M' (24 * j) (am_pass m0) ∧ hr_W M' (ar_all j (am_pass m0) s0 ms 8) ∧ fk_R (24 * j) (fm_put1 M 586 0 (nI 0)) M')) 0 0 (fm_A b) := by
  refine fm_enter (by decide) (Nat.le_of_ble_eq_true rfl) ?_
  intro p e s m args below meth c9 hc hr hnm hex htg
  have hWp := amW_pass hW
  obtain ⟨S1, K1, O1, T1, G1, H1, V1, D1⟩ := m0
  have pw := pk_wf (S := S1) (G := G1) (fun a ha hs => hW.2.1 a ha hs)
  refine fm_aload_n hc d_Mo_tick_0 rfl rfl ?_
  refine fm_aload_n hc d_Mo_tick_1 rfl rfl ?_
  refine fm_iload_n hc d_Mo_tick_2 rfl rfl ?_
  refine fm_iconst (v := nI 1) hc d_Mo_tick_3 rfl ?_
  refine fm_callV (av := [.int (nI j), .int (nI 1)]) (rest := [.ref 586]) (ob := 586) (ci := 11) (r0 := ("AgentNetModel", F_Mo, 51)) (y := y_Mo_wrongAt) (bytes := b_Mo_wrongAt) hc fm_T0_good (fm_EX_st b x) hex q_1078 q_13 q_1075 q_1077 qs_Mo_wrongAt pd_Mo_wrongAt (by decide) (by omega) (by decide) (by decide) rfl rfl (c_wrongAt_fine hn hR hj hu) ⟨rfl, rfl, Nat.le_of_ble_eq_true rfl, Nat.le_of_ble_eq_true rfl⟩ ⟨Nat.le_of_ble_eq_true rfl, Nat.le_of_ble_eq_true rfl⟩ d_Mo_tick_4 (Nat.le_of_ble_eq_true rfl) (fun r n2 M2 hp => ?_)
  obtain ⟨rfl, hq1, hq2⟩ := hp
  replace hq1 := hq1.symm
  replace hq2 := hq2.symm
  subst hq1 hq2
  refine fm_cnt (z' := (0, 0)) rfl (fm_st (st' := [.int (nI 0), .ref 586]) rfl ?_)
  refine fm_putI (k := 0) (v := nI 0) hc K_Mo d_Mo_tick_7 q_885 rfl (by decide) (by omega) (by decide) (by decide) (by decide) rfl rfl rfl rfl ?_
  refine fm_mem (M' := fm_put1 M 586 0 (nI 0)) rfl rfl ?_
  refine fm_aload_n hc d_Mo_tick_10 rfl rfl ?_
  refine fm_getI (k := 0) hc K_Mo d_Mo_tick_11 q_885 rfl (by decide) (by omega) (by decide) (by decide) (by decide) rfl ?_
  refine fm_top (congrArg Value.int (show (fm_put1 M 586 0 (nI 0)).1 586 0 = nI 0 from (p1_same _ _ _ _))) ?_
  refine fm_if_le (tgt := 19) hc d_Mo_tick_14 rfl (fun _ => ?_) (fun g => absurd (by decide) g)
  refine fm_bipush (v := nI 24) hc d_Mo_tick_19 rfl ?_
  refine fm_iload_n hc d_Mo_tick_21 rfl rfl ?_
  refine fm_imul hc d_Mo_tick_22 ?_
  refine fm_top (congrArg Value.int (pk_mul 24 j)) ?_
  refine fm_istore_n (lv' := [(2, .int (nI (24 * j))), (0, .ref 586), (1, .int (nI j))]) hc d_Mo_tick_23 rfl (by decide) rfl ?_
  refine fm_dropl (lv' := [(2, .int (nI (24 * j + 0))), (0, .ref 586), (1, .int (nI j))]) (by simp) ?_
  refine fm_loopI (N := 8) (lv := fun k => [(2, .int (nI (24 * j + k))), (0, .ref 586), (1, .int (nI j))]) (I := fun k M' => hr_M M' (24 * j) (S1, K1, O1, T1, pk_G S1 G1 k, H1, V1, D1) ∧ fr_R (24 * j) (fm_put1 M 586 0 (nI 0)) M') (fun k Mk hk hI ih => ?_) (fun Mk hI => ?_) ⟨hrM_o (by decide) h, frR_rf _ _⟩
  · obtain ⟨i1, i2⟩ := hI
    have hRk : fm_RP Mk := frR_RP i2 (fun q hq => hR q hq)
    have hsl : Mk.1 597 (24 * j + k) = nI (S1 k) := i1.1 k hk
    have s4 : S1 k ≤ 4 := hW.1 k hk
    by_cases g1 : S1 k = 1
    · have e : pk_G S1 G1 (k + 1) = va_up (pk_G S1 G1 k) k (ag_tick (pk_G S1 G1 k k)) := if_pos g1
      rw [e] at ih
      have pwk : ∀ a, a < 8 → S1 a ≠ 0 → ag_wf a (pk_G S1 G1 k a) := fun a ha hs => (pw k a ha hs).1
      generalize pk_G S1 G1 k = Gk at *
      have w20 : (Gk k).1 6 ≤ 20 := (pwk k hk (by rw [g1]; decide)).2.2.2.2.2.2.2.1
      obtain ⟨gg, hgg⟩ := i1.2.2.2.2.2.2.2.2 k hk (by rw [g1]; decide)
      have hwt : Mk.1 610 (24 * j + k) = nI ((Gk k).1 6) := hgg.1 6 (by decide) (by decide) trivial
      by_cases g2 : (Gk k).1 6 = 0
      · refine fm_iload_n hc d_Mo_tick_24 rfl rfl ?_
        refine fm_bipush (v := nI 24) hc d_Mo_tick_25 rfl ?_
        refine fm_iload_n hc d_Mo_tick_27 rfl rfl ?_
        refine fm_imul hc d_Mo_tick_28 ?_
        refine fm_top (congrArg Value.int (pk_mul 24 j)) ?_
        refine fm_bipush (v := nI 8) hc d_Mo_tick_29 rfl ?_
        refine fm_iadd hc d_Mo_tick_31 ?_
        refine fm_top (congrArg Value.int (nI_add (24 * j) 8)) ?_
        refine fm_icmp_ge (tgt := 83) hc d_Mo_tick_32 rfl (fun g => absurd g (hnleB (a := 24 * j + 8) (c := 24 * j + k) (by omega) (by omega))) (fun _ => ?_)
        refine fm_aload_n hc d_Mo_tick_35 rfl rfl ?_
        refine fm_getR (k := 25) (q := 610) hc K_Mo d_Mo_tick_36 q_910 rfl (by decide) (by omega) (by decide) (by decide) (by decide) rfl (rp_wait hRk) ?_
        refine fm_iload_n hc d_Mo_tick_39 rfl rfl ?_
        refine fm_aload_n hc d_Mo_tick_40 rfl rfl ?_
        refine fm_getR (k := 12) (q := 597) hc K_Mo d_Mo_tick_41 q_897 rfl (by decide) (by omega) (by decide) (by decide) (by decide) rfl (rp_slot hRk) ?_
        refine fm_iload_n hc d_Mo_tick_44 rfl rfl ?_
        refine fm_iald (j := 24 * j + k) (len := 96) hc 0 d_Mo_tick_45 (by decide) (by omega) (by decide) rfl (by omega) (by decide) ?_
        refine fm_top (congrArg Value.int (show Mk.1 597 (24 * j + k) = nI (S1 k) from hsl)) ?_
        refine fm_iconst (v := nI 1) hc d_Mo_tick_46 rfl ?_
        refine fm_icmp_ne (tgt := 70) hc d_Mo_tick_47 rfl (fun g => absurd (congrArg nI g1) g) (fun _ => ?_)
        refine fm_aload_n hc d_Mo_tick_50 rfl rfl ?_
        refine fm_getR (k := 25) (q := 610) hc K_Mo d_Mo_tick_51 q_910 rfl (by decide) (by omega) (by decide) (by decide) (by decide) rfl (rp_wait hRk) ?_
        refine fm_iload_n hc d_Mo_tick_54 rfl rfl ?_
        refine fm_iald (j := 24 * j + k) (len := 98) hc 0 d_Mo_tick_55 (by decide) (by omega) (by decide) rfl (by omega) (by decide) ?_
        refine fm_top (congrArg Value.int (show Mk.1 610 (24 * j + k) = nI ((Gk k).1 6) from hwt)) ?_
        refine fm_if_le (tgt := 70) hc d_Mo_tick_56 rfl (fun _ => ?_) (fun g => absurd (by rw [g2]; decide) g)
        refine fm_aload_n hc d_Mo_tick_70 rfl rfl ?_
        refine fm_getR (k := 25) (q := 610) hc K_Mo d_Mo_tick_71 q_910 rfl (by decide) (by omega) (by decide) (by decide) (by decide) rfl (rp_wait hRk) ?_
        refine fm_iload_n hc d_Mo_tick_74 rfl rfl ?_
        refine fm_iald (j := 24 * j + k) (len := 98) hc 0 d_Mo_tick_75 (by decide) (by omega) (by decide) rfl (by omega) (by decide) ?_
        refine fm_iast (j := 24 * j + k) (len := 98) (v := Mk.1 610 (24 * j + k)) hc 0 d_Mo_tick_76 (by decide) (by omega) (by decide) rfl (by omega) (by decide) ?_
        refine fm_mem (M' := Mk) rfl (p1_id rfl) ?_
        refine fm_iinc (v := nI (24 * j + k + 1)) (lv' := [(2, .int (nI (24 * j + k + 1))), (0, .ref 586), (1, .int (nI j))]) hc d_Mo_tick_77 rfl (nI_1 (24 * j + k)) (by decide) rfl ?_
        refine fm_goto (tgt := 24) hc d_Mo_tick_80 rfl ?_
        refine fm_dropl (lv' := [(2, .int (nI (24 * j + (k + 1)))), (0, .ref 586), (1, .int (nI j))]) (by simp [Nat.add_assoc]) ?_
        exact ih _ ⟨by rw [tick_0 g2, va_same rfl]; exact i1, i2⟩
      · refine fm_iload_n hc d_Mo_tick_24 rfl rfl ?_
        refine fm_bipush (v := nI 24) hc d_Mo_tick_25 rfl ?_
        refine fm_iload_n hc d_Mo_tick_27 rfl rfl ?_
        refine fm_imul hc d_Mo_tick_28 ?_
        refine fm_top (congrArg Value.int (pk_mul 24 j)) ?_
        refine fm_bipush (v := nI 8) hc d_Mo_tick_29 rfl ?_
        refine fm_iadd hc d_Mo_tick_31 ?_
        refine fm_top (congrArg Value.int (nI_add (24 * j) 8)) ?_
        refine fm_icmp_ge (tgt := 83) hc d_Mo_tick_32 rfl (fun g => absurd g (hnleB (a := 24 * j + 8) (c := 24 * j + k) (by omega) (by omega))) (fun _ => ?_)
        refine fm_aload_n hc d_Mo_tick_35 rfl rfl ?_
        refine fm_getR (k := 25) (q := 610) hc K_Mo d_Mo_tick_36 q_910 rfl (by decide) (by omega) (by decide) (by decide) (by decide) rfl (rp_wait hRk) ?_
        refine fm_iload_n hc d_Mo_tick_39 rfl rfl ?_
        refine fm_aload_n hc d_Mo_tick_40 rfl rfl ?_
        refine fm_getR (k := 12) (q := 597) hc K_Mo d_Mo_tick_41 q_897 rfl (by decide) (by omega) (by decide) (by decide) (by decide) rfl (rp_slot hRk) ?_
        refine fm_iload_n hc d_Mo_tick_44 rfl rfl ?_
        refine fm_iald (j := 24 * j + k) (len := 96) hc 0 d_Mo_tick_45 (by decide) (by omega) (by decide) rfl (by omega) (by decide) ?_
        refine fm_top (congrArg Value.int (show Mk.1 597 (24 * j + k) = nI (S1 k) from hsl)) ?_
        refine fm_iconst (v := nI 1) hc d_Mo_tick_46 rfl ?_
        refine fm_icmp_ne (tgt := 70) hc d_Mo_tick_47 rfl (fun g => absurd (congrArg nI g1) g) (fun _ => ?_)
        refine fm_aload_n hc d_Mo_tick_50 rfl rfl ?_
        refine fm_getR (k := 25) (q := 610) hc K_Mo d_Mo_tick_51 q_910 rfl (by decide) (by omega) (by decide) (by decide) (by decide) rfl (rp_wait hRk) ?_
        refine fm_iload_n hc d_Mo_tick_54 rfl rfl ?_
        refine fm_iald (j := 24 * j + k) (len := 98) hc 0 d_Mo_tick_55 (by decide) (by omega) (by decide) rfl (by omega) (by decide) ?_
        refine fm_top (congrArg Value.int (show Mk.1 610 (24 * j + k) = nI ((Gk k).1 6) from hwt)) ?_
        refine fm_if_le (tgt := 70) hc d_Mo_tick_56 rfl (fun g => absurd g (fun q => g2 (by have := (nI_leI (a := (Gk k).1 6) (b := 0) (by omega) (by decide)).mp q; omega))) (fun _ => ?_)
        refine fm_aload_n hc d_Mo_tick_59 rfl rfl ?_
        refine fm_getR (k := 25) (q := 610) hc K_Mo d_Mo_tick_60 q_910 rfl (by decide) (by omega) (by decide) (by decide) (by decide) rfl (rp_wait hRk) ?_
        refine fm_iload_n hc d_Mo_tick_63 rfl rfl ?_
        refine fm_iald (j := 24 * j + k) (len := 98) hc 0 d_Mo_tick_64 (by decide) (by omega) (by decide) rfl (by omega) (by decide) ?_
        refine fm_top (congrArg Value.int (show Mk.1 610 (24 * j + k) = nI ((Gk k).1 6) from hwt)) ?_
        refine fm_iconst (v := nI 1) hc d_Mo_tick_65 rfl ?_
        refine fm_isub hc d_Mo_tick_66 ?_
        refine fm_top (congrArg Value.int (pk_sub (a := (Gk k).1 6) (b := 1) (by omega))) ?_
        refine fm_goto (tgt := 76) hc d_Mo_tick_67 rfl ?_
        refine fm_iast (j := 24 * j + k) (len := 98) (v := nI (((Gk k).1 6) - 1)) hc 0 d_Mo_tick_76 (by decide) (by omega) (by decide) rfl (by omega) (by decide) ?_
        refine fm_iinc (v := nI (24 * j + k + 1)) (lv' := [(2, .int (nI (24 * j + k + 1))), (0, .ref 586), (1, .int (nI j))]) hc d_Mo_tick_77 rfl (nI_1 (24 * j + k)) (by decide) rfl ?_
        refine fm_goto (tgt := 24) hc d_Mo_tick_80 rfl ?_
        refine fm_dropl (lv' := [(2, .int (nI (24 * j + (k + 1)))), (0, .ref 586), (1, .int (nI j))]) (by simp [Nat.add_assoc]) ?_
        exact ih _ ⟨hrM_tick hk (by rw [g1]; decide) pwk i1, frR_tr i2 (frR_W (gi := 24 * j + k) (by omega) (frW_p1 (Or.inl ⟨by decide, by decide, rfl⟩) (frW_rf _ _)))⟩
    · have e : pk_G S1 G1 (k + 1) = pk_G S1 G1 k := if_neg g1
      rw [e] at ih
      refine fm_iload_n hc d_Mo_tick_24 rfl rfl ?_
      refine fm_bipush (v := nI 24) hc d_Mo_tick_25 rfl ?_
      refine fm_iload_n hc d_Mo_tick_27 rfl rfl ?_
      refine fm_imul hc d_Mo_tick_28 ?_
      refine fm_top (congrArg Value.int (pk_mul 24 j)) ?_
      refine fm_bipush (v := nI 8) hc d_Mo_tick_29 rfl ?_
      refine fm_iadd hc d_Mo_tick_31 ?_
      refine fm_top (congrArg Value.int (nI_add (24 * j) 8)) ?_
      refine fm_icmp_ge (tgt := 83) hc d_Mo_tick_32 rfl (fun g => absurd g (hnleB (a := 24 * j + 8) (c := 24 * j + k) (by omega) (by omega))) (fun _ => ?_)
      refine fm_aload_n hc d_Mo_tick_35 rfl rfl ?_
      refine fm_getR (k := 25) (q := 610) hc K_Mo d_Mo_tick_36 q_910 rfl (by decide) (by omega) (by decide) (by decide) (by decide) rfl (rp_wait hRk) ?_
      refine fm_iload_n hc d_Mo_tick_39 rfl rfl ?_
      refine fm_aload_n hc d_Mo_tick_40 rfl rfl ?_
      refine fm_getR (k := 12) (q := 597) hc K_Mo d_Mo_tick_41 q_897 rfl (by decide) (by omega) (by decide) (by decide) (by decide) rfl (rp_slot hRk) ?_
      refine fm_iload_n hc d_Mo_tick_44 rfl rfl ?_
      refine fm_iald (j := 24 * j + k) (len := 96) hc 0 d_Mo_tick_45 (by decide) (by omega) (by decide) rfl (by omega) (by decide) ?_
      refine fm_top (congrArg Value.int (show Mk.1 597 (24 * j + k) = nI (S1 k) from hsl)) ?_
      refine fm_iconst (v := nI 1) hc d_Mo_tick_46 rfl ?_
      refine fm_icmp_ne (tgt := 70) hc d_Mo_tick_47 rfl (fun _ => ?_) (fun g => absurd g (fun q => g1 (nI_inj (by omega) (by decide) q)))
      refine fm_aload_n hc d_Mo_tick_70 rfl rfl ?_
      refine fm_getR (k := 25) (q := 610) hc K_Mo d_Mo_tick_71 q_910 rfl (by decide) (by omega) (by decide) (by decide) (by decide) rfl (rp_wait hRk) ?_
      refine fm_iload_n hc d_Mo_tick_74 rfl rfl ?_
      refine fm_iald (j := 24 * j + k) (len := 98) hc 0 d_Mo_tick_75 (by decide) (by omega) (by decide) rfl (by omega) (by decide) ?_
      refine fm_iast (j := 24 * j + k) (len := 98) (v := Mk.1 610 (24 * j + k)) hc 0 d_Mo_tick_76 (by decide) (by omega) (by decide) rfl (by omega) (by decide) ?_
      refine fm_mem (M' := Mk) rfl (p1_id rfl) ?_
      refine fm_iinc (v := nI (24 * j + k + 1)) (lv' := [(2, .int (nI (24 * j + k + 1))), (0, .ref 586), (1, .int (nI j))]) hc d_Mo_tick_77 rfl (nI_1 (24 * j + k)) (by decide) rfl ?_
      refine fm_goto (tgt := 24) hc d_Mo_tick_80 rfl ?_
      refine fm_dropl (lv' := [(2, .int (nI (24 * j + (k + 1)))), (0, .ref 586), (1, .int (nI j))]) (by simp [Nat.add_assoc]) ?_
      exact ih _ ⟨i1, i2⟩
  · obtain ⟨i1, i2⟩ := hI
    have hRk : fm_RP Mk := frR_RP i2 (fun q hq => hR q hq)
    have i2b : hr_M Mk (24 * j + 16) s0 := hrM_R (by omega) hsa i2 (hrM_o (by decide) g)
    have i2w : hr_W Mk ms := hrW_R i2 (hrW_of (fun q i a c => p1_other (by omega)) (p1_at (by decide)) hw)
    have fk0 : fk_R (24 * j) (fm_put1 M 586 0 (nI 0)) Mk := fkR_R (by omega) i2
    have pw8 : ∀ a, a < 8 → S1 a ≠ 0 → ag_wf a (pk_G S1 G1 8 a) := fun a ha hs => (pw 8 a ha hs).1
    have eP : am_pass (S1, K1, O1, T1, G1, H1, V1, D1) = (S1, K1, O1, T1, pk_G S1 G1 8, H1, V1, D1) := rfl
    rw [eP]
    generalize pk_G S1 G1 8 = Gk at *
    refine fm_iload_n hc d_Mo_tick_24 rfl rfl ?_
    refine fm_bipush (v := nI 24) hc d_Mo_tick_25 rfl ?_
    refine fm_iload_n hc d_Mo_tick_27 rfl rfl ?_
    refine fm_imul hc d_Mo_tick_28 ?_
    refine fm_top (congrArg Value.int (pk_mul 24 j)) ?_
    refine fm_bipush (v := nI 8) hc d_Mo_tick_29 rfl ?_
    refine fm_iadd hc d_Mo_tick_31 ?_
    refine fm_top (congrArg Value.int (nI_add (24 * j) 8)) ?_
    refine fm_icmp_ge (tgt := 83) hc d_Mo_tick_32 rfl (fun _ => ?_) (fun g => absurd (nI_le (Nat.le_refl _) (by omega)) g)
    refine fm_bipush (v := nI 24) hc d_Mo_tick_83 rfl ?_
    refine fm_iload_n hc d_Mo_tick_85 rfl rfl ?_
    refine fm_imul hc d_Mo_tick_86 ?_
    refine fm_top (congrArg Value.int (pk_mul 24 j)) ?_
    refine fm_istore_n (lv' := [(2, .int (nI (24 * j))), (0, .ref 586), (1, .int (nI j))]) hc d_Mo_tick_87 rfl (by decide) rfl ?_
    refine fm_dropl (lv' := [(2, .int (nI (24 * j + 0))), (0, .ref 586), (1, .int (nI j))]) (by simp) ?_
    refine fm_loopI (N := 8) (lv := fun k => [(2, .int (nI (24 * j + k))), (0, .ref 586), (1, .int (nI j))]) (I := fun k M' => hr_W M' (ar_all j (S1, K1, O1, T1, Gk, H1, V1, D1) s0 ms k) ∧ fv_M Mk M') (fun k Mq hk hI ih => ?_) (fun Mq hI => ?_) ⟨i2w, fvM_rf Mk⟩
    · obtain ⟨l1, f⟩ := hI
      have hRq : fm_RP Mq := fvM_RP f hRk
      have hk1 : hr_M Mq (24 * j) (S1, K1, O1, T1, Gk, H1, V1, D1) := (fkR_V (b0 := 96) f).2.2.2.1 _ _ (by omega) ⟨hW.1, pw8⟩ i1
      have hk2 : hr_M Mq (24 * j + 16) s0 := (fkR_V (b0 := 96) f).2.2.2.1 _ _ (by omega) hsa i2b
      obtain ⟨S2, K2, O2, T2, G2, H2, V2, D2⟩ := s0
      have e : (ar_all j (S1, K1, O1, T1, Gk, H1, V1, D1) (S2, K2, O2, T2, G2, H2, V2, D2) ms (k + 1)) = ar_one j (S1, K1, O1, T1, Gk, H1, V1, D1) (S2, K2, O2, T2, G2, H2, V2, D2) k (ar_all j (S1, K1, O1, T1, Gk, H1, V1, D1) (S2, K2, O2, T2, G2, H2, V2, D2) ms k) := rfl
      rw [e] at ih
      generalize (ar_all j (S1, K1, O1, T1, Gk, H1, V1, D1) (S2, K2, O2, T2, G2, H2, V2, D2) ms k) = wk at *
      have hsl : Mq.1 597 (24 * j + k) = nI (S1 k) := hk1.1 k hk
      have hsq : Mq.1 597 (24 * j + k + 16) = nI (S2 k) := by rw [show 24 * j + k + 16 = 24 * j + 16 + k by omega]; exact hk2.1 k hk
      have s4 : S1 k ≤ 4 := hW.1 k hk
      have q4 : S2 k ≤ 4 := hsa.1 k hk
      have no : ¬ (S1 k = 2 ∧ S2 k = 2 ∧ (G2 k).1 4 = (Gk k).1 4) → ar_one j (S1, K1, O1, T1, Gk, H1, V1, D1) (S2, K2, O2, T2, G2, H2, V2, D2) k wk = wk := fun q => if_neg q
      have yes : (S1 k = 2 ∧ S2 k = 2 ∧ (G2 k).1 4 = (Gk k).1 4) → ar_one j (S1, K1, O1, T1, Gk, H1, V1, D1) (S2, K2, O2, T2, G2, H2, V2, D2) k wk = wi_send wk (0, (Gk k).1 0, nI ((Gk k).1 4), nI j, T1 k, im_B (Gk k)) := fun q => if_pos q
      by_cases g1 : S1 k = 2
      · have wk1 : ag_wf k (Gk k) := pw8 k hk (by rw [g1]; decide)
        obtain ⟨gg, hgg⟩ := hk1.2.2.2.2.2.2.2.2 k hk (by rw [g1]; decide)
        have hh1 : Mq.1 608 (24 * j + k) = nI ((Gk k).1 4) := hgg.1 4 (by decide) (by decide) trivial
        have w6 : (Gk k).1 4 + (Gk k).1 3 ≤ 200 := wk1.2.2.2.2.2.1
        have w0 : (Gk k).1 0 = k := wk1.2.2.1
        by_cases g2 : S2 k = 2
        · have wk2 : ag_wf k (G2 k) := hsa.2 k hk (by rw [g2]; decide)
          obtain ⟨gg2, hgg2⟩ := hk2.2.2.2.2.2.2.2.2 k hk (by rw [g2]; decide)
          have hh2 : Mq.1 608 (24 * j + k + 16) = nI ((G2 k).1 4) := by rw [show 24 * j + k + 16 = 24 * j + 16 + k by omega]; exact hgg2.1 4 (by decide) (by decide) trivial
          have v6 : (G2 k).1 4 + (G2 k).1 3 ≤ 200 := wk2.2.2.2.2.2.1
          by_cases g3 : (G2 k).1 4 = (Gk k).1 4
          · have l20 := l1.2.1
            by_cases g4 : wk.length < 20
            · refine fm_iload_n hc d_Mo_tick_88 rfl rfl ?_
              refine fm_bipush (v := nI 24) hc d_Mo_tick_89 rfl ?_
              refine fm_iload_n hc d_Mo_tick_91 rfl rfl ?_
              refine fm_imul hc d_Mo_tick_92 ?_
              refine fm_top (congrArg Value.int (pk_mul 24 j)) ?_
              refine fm_bipush (v := nI 8) hc d_Mo_tick_93 rfl ?_
              refine fm_iadd hc d_Mo_tick_95 ?_
              refine fm_top (congrArg Value.int (nI_add (24 * j) 8)) ?_
              refine fm_icmp_ge (tgt := 179) hc d_Mo_tick_96 rfl (fun g => absurd g (hnleB (a := 24 * j + 8) (c := 24 * j + k) (by omega) (by omega))) (fun _ => ?_)
              refine fm_aload_n hc d_Mo_tick_99 rfl rfl ?_
              refine fm_getR (k := 12) (q := 597) hc K_Mo d_Mo_tick_100 q_897 rfl (by decide) (by omega) (by decide) (by decide) (by decide) rfl (rp_slot hRq) ?_
              refine fm_iload_n hc d_Mo_tick_103 rfl rfl ?_
              refine fm_iald (j := 24 * j + k) (len := 96) hc 0 d_Mo_tick_104 (by decide) (by omega) (by decide) rfl (by omega) (by decide) ?_
              refine fm_top (congrArg Value.int (show Mq.1 597 (24 * j + k) = nI (S1 k) from hsl)) ?_
              refine fm_iconst (v := nI 2) hc d_Mo_tick_105 rfl ?_
              refine fm_icmp_ne (tgt := 173) hc d_Mo_tick_106 rfl (fun g => absurd (congrArg nI g1) g) (fun _ => ?_)
              refine fm_aload_n hc d_Mo_tick_109 rfl rfl ?_
              refine fm_getR (k := 12) (q := 597) hc K_Mo d_Mo_tick_110 q_897 rfl (by decide) (by omega) (by decide) (by decide) (by decide) rfl (rp_slot hRq) ?_
              refine fm_iload_n hc d_Mo_tick_113 rfl rfl ?_
              refine fm_bipush (v := nI 16) hc d_Mo_tick_114 rfl ?_
              refine fm_iadd hc d_Mo_tick_116 ?_
              refine fm_top (congrArg Value.int (nI_add (24 * j + k) 16)) ?_
              refine fm_iald (j := (24 * j + k) + 16) (len := 96) hc 0 d_Mo_tick_117 (by decide) (by omega) (by decide) rfl (by omega) (by decide) ?_
              refine fm_top (congrArg Value.int (show Mq.1 597 ((24 * j + k) + 16) = nI (S2 k) from hsq)) ?_
              refine fm_iconst (v := nI 2) hc d_Mo_tick_118 rfl ?_
              refine fm_icmp_ne (tgt := 173) hc d_Mo_tick_119 rfl (fun g => absurd (congrArg nI g2) g) (fun _ => ?_)
              refine fm_aload_n hc d_Mo_tick_122 rfl rfl ?_
              refine fm_getR (k := 23) (q := 608) hc K_Mo d_Mo_tick_123 q_908 rfl (by decide) (by omega) (by decide) (by decide) (by decide) rfl (rp_hops hRq) ?_
              refine fm_iload_n hc d_Mo_tick_126 rfl rfl ?_
              refine fm_bipush (v := nI 16) hc d_Mo_tick_127 rfl ?_
              refine fm_iadd hc d_Mo_tick_129 ?_
              refine fm_top (congrArg Value.int (nI_add (24 * j + k) 16)) ?_
              refine fm_iald (j := (24 * j + k) + 16) (len := 98) hc 0 d_Mo_tick_130 (by decide) (by omega) (by decide) rfl (by omega) (by decide) ?_
              refine fm_top (congrArg Value.int (show Mq.1 608 ((24 * j + k) + 16) = nI ((G2 k).1 4) from hh2)) ?_
              refine fm_aload_n hc d_Mo_tick_131 rfl rfl ?_
              refine fm_getR (k := 23) (q := 608) hc K_Mo d_Mo_tick_132 q_908 rfl (by decide) (by omega) (by decide) (by decide) (by decide) rfl (rp_hops hRq) ?_
              refine fm_iload_n hc d_Mo_tick_135 rfl rfl ?_
              refine fm_iald (j := 24 * j + k) (len := 98) hc 0 d_Mo_tick_136 (by decide) (by omega) (by decide) rfl (by omega) (by decide) ?_
              refine fm_top (congrArg Value.int (show Mq.1 608 (24 * j + k) = nI ((Gk k).1 4) from hh1)) ?_
              refine fm_icmp_ne (tgt := 173) hc d_Mo_tick_137 rfl (fun g => absurd (congrArg nI g3) g) (fun _ => ?_)
              refine fm_aload_n hc d_Mo_tick_140 rfl rfl ?_
              refine fm_iconst (v := nI 0) hc d_Mo_tick_141 rfl ?_
              refine fm_iload_n hc d_Mo_tick_142 rfl rfl ?_
              refine fm_bipush (v := nI 8) hc d_Mo_tick_143 rfl ?_
              refine fm_irem hc d_Mo_tick_145 (by decide) ?_
              refine fm_top (congrArg Value.int (show nI (24 * j + k) - nI (24 * j + k) / nI 8 * nI 8 = nI ((Gk k).1 0) by rw [w0]; exact (irem8 (24 * j + k) (by omega)).trans (congrArg nI (by omega)))) ?_
              refine fm_aload_n hc d_Mo_tick_146 rfl rfl ?_
              refine fm_getR (k := 23) (q := 608) hc K_Mo d_Mo_tick_147 q_908 rfl (by decide) (by omega) (by decide) (by decide) (by decide) rfl (rp_hops hRq) ?_
              refine fm_iload_n hc d_Mo_tick_150 rfl rfl ?_
              refine fm_iald (j := 24 * j + k) (len := 98) hc 0 d_Mo_tick_151 (by decide) (by omega) (by decide) rfl (by omega) (by decide) ?_
              refine fm_top (congrArg Value.int (show Mq.1 608 (24 * j + k) = nI ((Gk k).1 4) from hh1)) ?_
              refine fm_iload_n hc d_Mo_tick_152 rfl rfl ?_
              refine fm_aload_n hc d_Mo_tick_153 rfl rfl ?_
              refine fm_getR (k := 13) (q := 598) hc K_Mo d_Mo_tick_154 q_898 rfl (by decide) (by omega) (by decide) (by decide) (by decide) rfl (rp_goal hRq) ?_
              refine fm_iload_n hc d_Mo_tick_157 rfl rfl ?_
              refine fm_iald (j := 24 * j + k) (len := 96) hc 0 d_Mo_tick_158 (by decide) (by omega) (by decide) rfl (by omega) (by decide) ?_
              refine fm_top (congrArg Value.int (show Mq.1 598 (24 * j + k) = T1 k from (hk1.2.1 k hk g1))) ?_
              refine fm_callV (av := [.int (nI 0), .int (nI ((Gk k).1 0)), .int (nI ((Gk k).1 4)), .int (nI j), .int (T1 k)]) (rest := []) (ob := 586) (ci := 11) (r0 := ("AgentNetModel", F_Mo, 51)) (y := y_Mo_post) (bytes := b_Mo_post) hc fm_T0_good (fm_EX_st b x) hex q_1178 q_13 q_1175 q_1177 qs_Mo_post pd_Mo_post (by decide) (by omega) (by decide) (by decide) rfl rfl (rc_post0 (a := (Gk k).1 0) (v := nI ((Gk k).1 4)) (f := nI j) (t2 := T1 k) hn hRq l1.1 g4) ⟨rfl, rfl, Nat.le_of_ble_eq_true rfl, Nat.le_of_ble_eq_true rfl⟩ ⟨Nat.le_of_ble_eq_true rfl, Nat.le_of_ble_eq_true rfl⟩ d_Mo_tick_159 (Nat.le_of_ble_eq_true rfl) (fun r n2 M2 hp => ?_)
              obtain ⟨rfl, hq1, hq2⟩ := hp
              replace hq1 := hq1.symm
              subst hq1
              have p1 := hrW_post0 (a := (Gk k).1 0) (v := nI ((Gk k).1 4)) (f := nI j) (t2 := T1 k) l1 g4
              have p2 := fvM_post0 (a := (Gk k).1 0) (ln := wk.length) (v := nI ((Gk k).1 4)) (f := nI j) (t2 := T1 k) (M := Mq)
              rw [← hq2] at p1 p2
              clear hq2
              revert p1 p2
              generalize M2 = Ma
              intro p1 p2
              have hRa := fvM_RP p2 hRq
              have hka : hr_M Ma (24 * j) (S1, K1, O1, T1, Gk, H1, V1, D1) := (fkR_V (b0 := 96) p2).2.2.2.1 _ _ (by omega) ⟨hW.1, pw8⟩ hk1
              obtain ⟨ga, hga⟩ := hka.2.2.2.2.2.2.2.2 k hk (by rw [g1]; decide)
              refine fm_cnt (z' := (0, 0)) rfl (fm_st (st' := [.int (nI wk.length)]) rfl ?_)
              refine fm_istore_n (lv' := [(3, .int (nI wk.length)), (2, .int (nI (24 * j + k))), (0, .ref 586), (1, .int (nI j))]) hc d_Mo_tick_162 rfl (by decide) rfl ?_
              refine fm_iload_n hc d_Mo_tick_163 rfl rfl ?_
              refine fm_if_lt (tgt := 173) hc d_Mo_tick_164 rfl (fun g => absurd g (fun q => absurd ((nI_ltI (a := wk.length) (b := 0) (by omega) (by decide)).mp q) (by omega))) (fun _ => ?_)
              refine fm_aload_n hc d_Mo_tick_167 rfl rfl ?_
              refine fm_iload_n hc d_Mo_tick_168 rfl rfl ?_
              refine fm_iload_n hc d_Mo_tick_169 rfl rfl ?_
              refine fm_callV (av := [.int (nI (24 * j + k)), .int (nI wk.length)]) (rest := []) (ob := 586) (ci := 11) (r0 := ("AgentNetModel", F_Mo, 51)) (y := y_Mo_pack) (bytes := b_Mo_pack) hc fm_T0_good (fm_EX_st b x) hex q_1182 q_13 q_1179 q_1181 qs_Mo_pack pd_Mo_pack (by decide) (by omega) (by decide) (by decide) rfl rfl (rc_pack hn hRa (by omega) (by omega) hk (by omega) hga wk1) ⟨rfl, rfl, Nat.le_of_ble_eq_true rfl, Nat.le_of_ble_eq_true rfl⟩ ⟨Nat.le_of_ble_eq_true rfl, Nat.le_of_ble_eq_true rfl⟩ d_Mo_tick_170 (Nat.le_of_ble_eq_true rfl) (fun r n2 M2 hp => ?_)
              obtain ⟨rfl, hq1, c1, c2, c3, c4⟩ := hp
              replace hq1 := hq1.symm
              subst hq1
              revert c1 c2 c3 c4
              generalize M2 = Mb
              intro c1 c2 c3 c4
              have hRb : fm_RP Mb := fun q hq => by rw [c3]; exact hRa q hq
              refine fm_cnt (z' := (0, 0)) rfl (fm_st (st' := []) rfl ?_)
              refine fm_iinc (v := nI (24 * j + k + 1)) (lv' := [(2, .int (nI (24 * j + k + 1))), (3, .int (nI wk.length)), (0, .ref 586), (1, .int (nI j))]) hc d_Mo_tick_173 rfl (nI_1 (24 * j + k)) (by decide) rfl ?_
              refine fm_goto (tgt := 88) hc d_Mo_tick_176 rfl ?_
              refine fm_dropl (lv' := [(2, .int (nI (24 * j + (k + 1)))), (0, .ref 586), (1, .int (nI j))]) (by simp [Nat.add_assoc]) ?_
              exact ih _ ⟨by
                rw [yes ⟨g1, g2, g3⟩, wi_send, if_pos g4]
                exact hrW_pack p1 g4 (imB_len wk1.1) c1 c2 c4, fvM_tr f (fvM_tr p2 ⟨c3, fun q i a1 a2 a3 a4 => c4 q i (by omega) (by omega) a3 a4 (by omega)⟩)⟩
            · refine fm_iload_n hc d_Mo_tick_88 rfl rfl ?_
              refine fm_bipush (v := nI 24) hc d_Mo_tick_89 rfl ?_
              refine fm_iload_n hc d_Mo_tick_91 rfl rfl ?_
              refine fm_imul hc d_Mo_tick_92 ?_
              refine fm_top (congrArg Value.int (pk_mul 24 j)) ?_
              refine fm_bipush (v := nI 8) hc d_Mo_tick_93 rfl ?_
              refine fm_iadd hc d_Mo_tick_95 ?_
              refine fm_top (congrArg Value.int (nI_add (24 * j) 8)) ?_
              refine fm_icmp_ge (tgt := 179) hc d_Mo_tick_96 rfl (fun g => absurd g (hnleB (a := 24 * j + 8) (c := 24 * j + k) (by omega) (by omega))) (fun _ => ?_)
              refine fm_aload_n hc d_Mo_tick_99 rfl rfl ?_
              refine fm_getR (k := 12) (q := 597) hc K_Mo d_Mo_tick_100 q_897 rfl (by decide) (by omega) (by decide) (by decide) (by decide) rfl (rp_slot hRq) ?_
              refine fm_iload_n hc d_Mo_tick_103 rfl rfl ?_
              refine fm_iald (j := 24 * j + k) (len := 96) hc 0 d_Mo_tick_104 (by decide) (by omega) (by decide) rfl (by omega) (by decide) ?_
              refine fm_top (congrArg Value.int (show Mq.1 597 (24 * j + k) = nI (S1 k) from hsl)) ?_
              refine fm_iconst (v := nI 2) hc d_Mo_tick_105 rfl ?_
              refine fm_icmp_ne (tgt := 173) hc d_Mo_tick_106 rfl (fun g => absurd (congrArg nI g1) g) (fun _ => ?_)
              refine fm_aload_n hc d_Mo_tick_109 rfl rfl ?_
              refine fm_getR (k := 12) (q := 597) hc K_Mo d_Mo_tick_110 q_897 rfl (by decide) (by omega) (by decide) (by decide) (by decide) rfl (rp_slot hRq) ?_
              refine fm_iload_n hc d_Mo_tick_113 rfl rfl ?_
              refine fm_bipush (v := nI 16) hc d_Mo_tick_114 rfl ?_
              refine fm_iadd hc d_Mo_tick_116 ?_
              refine fm_top (congrArg Value.int (nI_add (24 * j + k) 16)) ?_
              refine fm_iald (j := (24 * j + k) + 16) (len := 96) hc 0 d_Mo_tick_117 (by decide) (by omega) (by decide) rfl (by omega) (by decide) ?_
              refine fm_top (congrArg Value.int (show Mq.1 597 ((24 * j + k) + 16) = nI (S2 k) from hsq)) ?_
              refine fm_iconst (v := nI 2) hc d_Mo_tick_118 rfl ?_
              refine fm_icmp_ne (tgt := 173) hc d_Mo_tick_119 rfl (fun g => absurd (congrArg nI g2) g) (fun _ => ?_)
              refine fm_aload_n hc d_Mo_tick_122 rfl rfl ?_
              refine fm_getR (k := 23) (q := 608) hc K_Mo d_Mo_tick_123 q_908 rfl (by decide) (by omega) (by decide) (by decide) (by decide) rfl (rp_hops hRq) ?_
              refine fm_iload_n hc d_Mo_tick_126 rfl rfl ?_
              refine fm_bipush (v := nI 16) hc d_Mo_tick_127 rfl ?_
              refine fm_iadd hc d_Mo_tick_129 ?_
              refine fm_top (congrArg Value.int (nI_add (24 * j + k) 16)) ?_
              refine fm_iald (j := (24 * j + k) + 16) (len := 98) hc 0 d_Mo_tick_130 (by decide) (by omega) (by decide) rfl (by omega) (by decide) ?_
              refine fm_top (congrArg Value.int (show Mq.1 608 ((24 * j + k) + 16) = nI ((G2 k).1 4) from hh2)) ?_
              refine fm_aload_n hc d_Mo_tick_131 rfl rfl ?_
              refine fm_getR (k := 23) (q := 608) hc K_Mo d_Mo_tick_132 q_908 rfl (by decide) (by omega) (by decide) (by decide) (by decide) rfl (rp_hops hRq) ?_
              refine fm_iload_n hc d_Mo_tick_135 rfl rfl ?_
              refine fm_iald (j := 24 * j + k) (len := 98) hc 0 d_Mo_tick_136 (by decide) (by omega) (by decide) rfl (by omega) (by decide) ?_
              refine fm_top (congrArg Value.int (show Mq.1 608 (24 * j + k) = nI ((Gk k).1 4) from hh1)) ?_
              refine fm_icmp_ne (tgt := 173) hc d_Mo_tick_137 rfl (fun g => absurd (congrArg nI g3) g) (fun _ => ?_)
              refine fm_aload_n hc d_Mo_tick_140 rfl rfl ?_
              refine fm_iconst (v := nI 0) hc d_Mo_tick_141 rfl ?_
              refine fm_iload_n hc d_Mo_tick_142 rfl rfl ?_
              refine fm_bipush (v := nI 8) hc d_Mo_tick_143 rfl ?_
              refine fm_irem hc d_Mo_tick_145 (by decide) ?_
              refine fm_top (congrArg Value.int (show nI (24 * j + k) - nI (24 * j + k) / nI 8 * nI 8 = nI ((Gk k).1 0) by rw [w0]; exact (irem8 (24 * j + k) (by omega)).trans (congrArg nI (by omega)))) ?_
              refine fm_aload_n hc d_Mo_tick_146 rfl rfl ?_
              refine fm_getR (k := 23) (q := 608) hc K_Mo d_Mo_tick_147 q_908 rfl (by decide) (by omega) (by decide) (by decide) (by decide) rfl (rp_hops hRq) ?_
              refine fm_iload_n hc d_Mo_tick_150 rfl rfl ?_
              refine fm_iald (j := 24 * j + k) (len := 98) hc 0 d_Mo_tick_151 (by decide) (by omega) (by decide) rfl (by omega) (by decide) ?_
              refine fm_top (congrArg Value.int (show Mq.1 608 (24 * j + k) = nI ((Gk k).1 4) from hh1)) ?_
              refine fm_iload_n hc d_Mo_tick_152 rfl rfl ?_
              refine fm_aload_n hc d_Mo_tick_153 rfl rfl ?_
              refine fm_getR (k := 13) (q := 598) hc K_Mo d_Mo_tick_154 q_898 rfl (by decide) (by omega) (by decide) (by decide) (by decide) rfl (rp_goal hRq) ?_
              refine fm_iload_n hc d_Mo_tick_157 rfl rfl ?_
              refine fm_iald (j := 24 * j + k) (len := 96) hc 0 d_Mo_tick_158 (by decide) (by omega) (by decide) rfl (by omega) (by decide) ?_
              refine fm_top (congrArg Value.int (show Mq.1 598 (24 * j + k) = T1 k from (hk1.2.1 k hk g1))) ?_
              refine fm_callV (av := [.int (nI 0), .int (nI ((Gk k).1 0)), .int (nI ((Gk k).1 4)), .int (nI j), .int (T1 k)]) (rest := []) (ob := 586) (ci := 11) (r0 := ("AgentNetModel", F_Mo, 51)) (y := y_Mo_post) (bytes := b_Mo_post) hc fm_T0_good (fm_EX_st b x) hex q_1178 q_13 q_1175 q_1177 qs_Mo_post pd_Mo_post (by decide) (by omega) (by decide) (by decide) rfl rfl (rc_postF0 (a := (Gk k).1 0) (v := nI ((Gk k).1 4)) (f := nI j) (t2 := T1 k) hn hRq (by rw [l1.1, show wk.length = 20 by omega])) ⟨rfl, rfl, Nat.le_of_ble_eq_true rfl, Nat.le_of_ble_eq_true rfl⟩ ⟨Nat.le_of_ble_eq_true rfl, Nat.le_of_ble_eq_true rfl⟩ d_Mo_tick_159 (Nat.le_of_ble_eq_true rfl) (fun r n2 M2 hp => ?_)
              obtain ⟨rfl, hq1, hq2⟩ := hp
              replace hq1 := hq1.symm
              replace hq2 := hq2.symm
              subst hq1 hq2
              refine fm_cnt (z' := (0, 0)) rfl (fm_st (st' := [.int ((-1))]) rfl ?_)
              refine fm_istore_n (lv' := [(3, .int ((-1))), (2, .int (nI (24 * j + k))), (0, .ref 586), (1, .int (nI j))]) hc d_Mo_tick_162 rfl (by decide) rfl ?_
              refine fm_iload_n hc d_Mo_tick_163 rfl rfl ?_
              refine fm_if_lt (tgt := 173) hc d_Mo_tick_164 rfl (fun _ => ?_) (fun g => absurd (by decide) g)
              refine fm_iinc (v := nI (24 * j + k + 1)) (lv' := [(2, .int (nI (24 * j + k + 1))), (3, .int ((-1))), (0, .ref 586), (1, .int (nI j))]) hc d_Mo_tick_173 rfl (nI_1 (24 * j + k)) (by decide) rfl ?_
              refine fm_goto (tgt := 88) hc d_Mo_tick_176 rfl ?_
              refine fm_dropl (lv' := [(2, .int (nI (24 * j + (k + 1)))), (0, .ref 586), (1, .int (nI j))]) (by simp [Nat.add_assoc]) ?_
              exact ih _ ⟨by rw [yes ⟨g1, g2, g3⟩, wi_send, if_neg g4]; exact l1, f⟩
          · refine fm_iload_n hc d_Mo_tick_88 rfl rfl ?_
            refine fm_bipush (v := nI 24) hc d_Mo_tick_89 rfl ?_
            refine fm_iload_n hc d_Mo_tick_91 rfl rfl ?_
            refine fm_imul hc d_Mo_tick_92 ?_
            refine fm_top (congrArg Value.int (pk_mul 24 j)) ?_
            refine fm_bipush (v := nI 8) hc d_Mo_tick_93 rfl ?_
            refine fm_iadd hc d_Mo_tick_95 ?_
            refine fm_top (congrArg Value.int (nI_add (24 * j) 8)) ?_
            refine fm_icmp_ge (tgt := 179) hc d_Mo_tick_96 rfl (fun g => absurd g (hnleB (a := 24 * j + 8) (c := 24 * j + k) (by omega) (by omega))) (fun _ => ?_)
            refine fm_aload_n hc d_Mo_tick_99 rfl rfl ?_
            refine fm_getR (k := 12) (q := 597) hc K_Mo d_Mo_tick_100 q_897 rfl (by decide) (by omega) (by decide) (by decide) (by decide) rfl (rp_slot hRq) ?_
            refine fm_iload_n hc d_Mo_tick_103 rfl rfl ?_
            refine fm_iald (j := 24 * j + k) (len := 96) hc 0 d_Mo_tick_104 (by decide) (by omega) (by decide) rfl (by omega) (by decide) ?_
            refine fm_top (congrArg Value.int (show Mq.1 597 (24 * j + k) = nI (S1 k) from hsl)) ?_
            refine fm_iconst (v := nI 2) hc d_Mo_tick_105 rfl ?_
            refine fm_icmp_ne (tgt := 173) hc d_Mo_tick_106 rfl (fun g => absurd (congrArg nI g1) g) (fun _ => ?_)
            refine fm_aload_n hc d_Mo_tick_109 rfl rfl ?_
            refine fm_getR (k := 12) (q := 597) hc K_Mo d_Mo_tick_110 q_897 rfl (by decide) (by omega) (by decide) (by decide) (by decide) rfl (rp_slot hRq) ?_
            refine fm_iload_n hc d_Mo_tick_113 rfl rfl ?_
            refine fm_bipush (v := nI 16) hc d_Mo_tick_114 rfl ?_
            refine fm_iadd hc d_Mo_tick_116 ?_
            refine fm_top (congrArg Value.int (nI_add (24 * j + k) 16)) ?_
            refine fm_iald (j := (24 * j + k) + 16) (len := 96) hc 0 d_Mo_tick_117 (by decide) (by omega) (by decide) rfl (by omega) (by decide) ?_
            refine fm_top (congrArg Value.int (show Mq.1 597 ((24 * j + k) + 16) = nI (S2 k) from hsq)) ?_
            refine fm_iconst (v := nI 2) hc d_Mo_tick_118 rfl ?_
            refine fm_icmp_ne (tgt := 173) hc d_Mo_tick_119 rfl (fun g => absurd (congrArg nI g2) g) (fun _ => ?_)
            refine fm_aload_n hc d_Mo_tick_122 rfl rfl ?_
            refine fm_getR (k := 23) (q := 608) hc K_Mo d_Mo_tick_123 q_908 rfl (by decide) (by omega) (by decide) (by decide) (by decide) rfl (rp_hops hRq) ?_
            refine fm_iload_n hc d_Mo_tick_126 rfl rfl ?_
            refine fm_bipush (v := nI 16) hc d_Mo_tick_127 rfl ?_
            refine fm_iadd hc d_Mo_tick_129 ?_
            refine fm_top (congrArg Value.int (nI_add (24 * j + k) 16)) ?_
            refine fm_iald (j := (24 * j + k) + 16) (len := 98) hc 0 d_Mo_tick_130 (by decide) (by omega) (by decide) rfl (by omega) (by decide) ?_
            refine fm_top (congrArg Value.int (show Mq.1 608 ((24 * j + k) + 16) = nI ((G2 k).1 4) from hh2)) ?_
            refine fm_aload_n hc d_Mo_tick_131 rfl rfl ?_
            refine fm_getR (k := 23) (q := 608) hc K_Mo d_Mo_tick_132 q_908 rfl (by decide) (by omega) (by decide) (by decide) (by decide) rfl (rp_hops hRq) ?_
            refine fm_iload_n hc d_Mo_tick_135 rfl rfl ?_
            refine fm_iald (j := 24 * j + k) (len := 98) hc 0 d_Mo_tick_136 (by decide) (by omega) (by decide) rfl (by omega) (by decide) ?_
            refine fm_top (congrArg Value.int (show Mq.1 608 (24 * j + k) = nI ((Gk k).1 4) from hh1)) ?_
            refine fm_icmp_ne (tgt := 173) hc d_Mo_tick_137 rfl (fun _ => ?_) (fun g => absurd g (fun q => g3 (nI_inj (by omega) (by omega) q)))
            refine fm_iinc (v := nI (24 * j + k + 1)) (lv' := [(2, .int (nI (24 * j + k + 1))), (0, .ref 586), (1, .int (nI j))]) hc d_Mo_tick_173 rfl (nI_1 (24 * j + k)) (by decide) rfl ?_
            refine fm_goto (tgt := 88) hc d_Mo_tick_176 rfl ?_
            refine fm_dropl (lv' := [(2, .int (nI (24 * j + (k + 1)))), (0, .ref 586), (1, .int (nI j))]) (by simp [Nat.add_assoc]) ?_
            exact ih _ ⟨by rw [no (fun q => g3 q.2.2)]; exact l1, f⟩
        · refine fm_iload_n hc d_Mo_tick_88 rfl rfl ?_
          refine fm_bipush (v := nI 24) hc d_Mo_tick_89 rfl ?_
          refine fm_iload_n hc d_Mo_tick_91 rfl rfl ?_
          refine fm_imul hc d_Mo_tick_92 ?_
          refine fm_top (congrArg Value.int (pk_mul 24 j)) ?_
          refine fm_bipush (v := nI 8) hc d_Mo_tick_93 rfl ?_
          refine fm_iadd hc d_Mo_tick_95 ?_
          refine fm_top (congrArg Value.int (nI_add (24 * j) 8)) ?_
          refine fm_icmp_ge (tgt := 179) hc d_Mo_tick_96 rfl (fun g => absurd g (hnleB (a := 24 * j + 8) (c := 24 * j + k) (by omega) (by omega))) (fun _ => ?_)
          refine fm_aload_n hc d_Mo_tick_99 rfl rfl ?_
          refine fm_getR (k := 12) (q := 597) hc K_Mo d_Mo_tick_100 q_897 rfl (by decide) (by omega) (by decide) (by decide) (by decide) rfl (rp_slot hRq) ?_
          refine fm_iload_n hc d_Mo_tick_103 rfl rfl ?_
          refine fm_iald (j := 24 * j + k) (len := 96) hc 0 d_Mo_tick_104 (by decide) (by omega) (by decide) rfl (by omega) (by decide) ?_
          refine fm_top (congrArg Value.int (show Mq.1 597 (24 * j + k) = nI (S1 k) from hsl)) ?_
          refine fm_iconst (v := nI 2) hc d_Mo_tick_105 rfl ?_
          refine fm_icmp_ne (tgt := 173) hc d_Mo_tick_106 rfl (fun g => absurd (congrArg nI g1) g) (fun _ => ?_)
          refine fm_aload_n hc d_Mo_tick_109 rfl rfl ?_
          refine fm_getR (k := 12) (q := 597) hc K_Mo d_Mo_tick_110 q_897 rfl (by decide) (by omega) (by decide) (by decide) (by decide) rfl (rp_slot hRq) ?_
          refine fm_iload_n hc d_Mo_tick_113 rfl rfl ?_
          refine fm_bipush (v := nI 16) hc d_Mo_tick_114 rfl ?_
          refine fm_iadd hc d_Mo_tick_116 ?_
          refine fm_top (congrArg Value.int (nI_add (24 * j + k) 16)) ?_
          refine fm_iald (j := (24 * j + k) + 16) (len := 96) hc 0 d_Mo_tick_117 (by decide) (by omega) (by decide) rfl (by omega) (by decide) ?_
          refine fm_top (congrArg Value.int (show Mq.1 597 ((24 * j + k) + 16) = nI (S2 k) from hsq)) ?_
          refine fm_iconst (v := nI 2) hc d_Mo_tick_118 rfl ?_
          refine fm_icmp_ne (tgt := 173) hc d_Mo_tick_119 rfl (fun _ => ?_) (fun g => absurd g (fun q => g2 (nI_inj (by omega) (by decide) q)))
          refine fm_iinc (v := nI (24 * j + k + 1)) (lv' := [(2, .int (nI (24 * j + k + 1))), (0, .ref 586), (1, .int (nI j))]) hc d_Mo_tick_173 rfl (nI_1 (24 * j + k)) (by decide) rfl ?_
          refine fm_goto (tgt := 88) hc d_Mo_tick_176 rfl ?_
          refine fm_dropl (lv' := [(2, .int (nI (24 * j + (k + 1)))), (0, .ref 586), (1, .int (nI j))]) (by simp [Nat.add_assoc]) ?_
          exact ih _ ⟨by rw [no (fun q => g2 q.2.1)]; exact l1, f⟩
      · refine fm_iload_n hc d_Mo_tick_88 rfl rfl ?_
        refine fm_bipush (v := nI 24) hc d_Mo_tick_89 rfl ?_
        refine fm_iload_n hc d_Mo_tick_91 rfl rfl ?_
        refine fm_imul hc d_Mo_tick_92 ?_
        refine fm_top (congrArg Value.int (pk_mul 24 j)) ?_
        refine fm_bipush (v := nI 8) hc d_Mo_tick_93 rfl ?_
        refine fm_iadd hc d_Mo_tick_95 ?_
        refine fm_top (congrArg Value.int (nI_add (24 * j) 8)) ?_
        refine fm_icmp_ge (tgt := 179) hc d_Mo_tick_96 rfl (fun g => absurd g (hnleB (a := 24 * j + 8) (c := 24 * j + k) (by omega) (by omega))) (fun _ => ?_)
        refine fm_aload_n hc d_Mo_tick_99 rfl rfl ?_
        refine fm_getR (k := 12) (q := 597) hc K_Mo d_Mo_tick_100 q_897 rfl (by decide) (by omega) (by decide) (by decide) (by decide) rfl (rp_slot hRq) ?_
        refine fm_iload_n hc d_Mo_tick_103 rfl rfl ?_
        refine fm_iald (j := 24 * j + k) (len := 96) hc 0 d_Mo_tick_104 (by decide) (by omega) (by decide) rfl (by omega) (by decide) ?_
        refine fm_top (congrArg Value.int (show Mq.1 597 (24 * j + k) = nI (S1 k) from hsl)) ?_
        refine fm_iconst (v := nI 2) hc d_Mo_tick_105 rfl ?_
        refine fm_icmp_ne (tgt := 173) hc d_Mo_tick_106 rfl (fun _ => ?_) (fun g => absurd g (fun q => g1 (nI_inj (by omega) (by decide) q)))
        refine fm_iinc (v := nI (24 * j + k + 1)) (lv' := [(2, .int (nI (24 * j + k + 1))), (0, .ref 586), (1, .int (nI j))]) hc d_Mo_tick_173 rfl (nI_1 (24 * j + k)) (by decide) rfl ?_
        refine fm_goto (tgt := 88) hc d_Mo_tick_176 rfl ?_
        refine fm_dropl (lv' := [(2, .int (nI (24 * j + (k + 1)))), (0, .ref 586), (1, .int (nI j))]) (by simp [Nat.add_assoc]) ?_
        exact ih _ ⟨by rw [no (fun q => g1 q.1)]; exact l1, f⟩
    · obtain ⟨l1, f⟩ := hI
      refine fm_iload_n hc d_Mo_tick_88 rfl rfl ?_
      refine fm_bipush (v := nI 24) hc d_Mo_tick_89 rfl ?_
      refine fm_iload_n hc d_Mo_tick_91 rfl rfl ?_
      refine fm_imul hc d_Mo_tick_92 ?_
      refine fm_top (congrArg Value.int (pk_mul 24 j)) ?_
      refine fm_bipush (v := nI 8) hc d_Mo_tick_93 rfl ?_
      refine fm_iadd hc d_Mo_tick_95 ?_
      refine fm_top (congrArg Value.int (nI_add (24 * j) 8)) ?_
      refine fm_icmp_ge (tgt := 179) hc d_Mo_tick_96 rfl (fun _ => ?_) (fun g => absurd (nI_le (Nat.le_refl _) (by omega)) g)
      refine fm_aload_n hc d_Mo_tick_179 rfl rfl ?_
      refine fm_getI (k := 37) hc K_Mo d_Mo_tick_180 q_922 rfl (by decide) (by omega) (by decide) (by decide) (by decide) rfl ?_
      refine fm_top (congrArg Value.int (show Mq.1 586 37 = nI ((ar_all j (S1, K1, O1, T1, Gk, H1, V1, D1) s0 ms 8).length) from l1.1)) ?_
      exact fm_iret hc hr d_Mo_tick_183 (Nat.le_refl _) (Nat.le_refl _) ⟨rfl, rfl, (fkR_V (b0 := 96) f).2.2.2.1 _ _ (by omega) ⟨hW.1, pw8⟩ i1, l1, fkR_tr fk0 (fkR_V f)⟩
