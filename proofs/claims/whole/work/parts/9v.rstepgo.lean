/-! THE REFERENCE: step entire -/
theorem rW_t {gi i : Nat} {M M' : fm_M} {A : ag_T} {st : Nat × Int32 × ag_T} (hle : st.1 ≤ 5) (w : rW_m gi M A st M') : M'.1 604 i = M.1 604 i := by
  obtain ⟨ak, av, P⟩ := st
  obtain ⟨-, w2, w3⟩ := w
  have hle : ak ≤ 5 := hle
  have q : ∀ E : fm_M, fr_W gi E M' → M'.1 604 i = E.1 604 i := fun E f => f.2.1 604 i (by omega) (by decide) (by decide) (by omega)
  rcases (show ak = 0 ∨ ak = 1 ∨ ak = 2 ∨ ak = 3 ∨ ak = 4 ∨ ak = 5 by omega) with rfl | rfl | rfl | rfl | rfl | rfl
  · exact (q _ (w2 (fun e => no3 e rfl))).trans (p1_other (by decide))
  · exact (q _ (w2 (fun e => no3 e rfl))).trans ((p1_other (by decide)).trans ((p1_other (by decide)).trans (p1_other (by decide))))
  · exact (q _ (w2 (fun e => no3 e rfl))).trans ((p1_other (by decide)).trans ((p1_other (by decide)).trans ((p1_other (by decide)).trans (p1_other (by decide)))))
  · exact ((w3 rfl).1.2.1 604 i (by omega) (by decide) (by decide) (by omega)).trans ((p1_other (by decide)).trans ((p1_other (by decide)).trans ((p1_other (by decide)).trans (p1_other (by decide)))))
  · exact (q _ (w2 (fun e => no3 e rfl))).trans ((p1_other (by decide)).trans (p1_other (by decide)))
  · exact (q _ (w2 (fun e => no3 e rfl))).trans (p1_other (by decide))
theorem r_step_go {l : Launch} {b : Nat} {x : Nat → Nat} {D : va_G} {dA : Nat → ClassId} {j c0 n : Nat} {sc : Nat → List Nat} {tbl : Nat → Int32} {m0 : am_T} {M : fm_M} (hn : 629 ≤ n) (hR : fm_RP M) (hj : j < 4) (hu : ¬ M.1 595 j = 0) (hc1 : 1 ≤ c0) (hc40 : c0 ≤ 40) (hsc : ∀ q, q < 4 → hs_R M q (sc q)) (htb : ∀ k, k < 8 → M.1 589 (8 * j + k) = tbl k) (h : hr_M M (24 * j) m0) (hW : am_W m0) : Met l y_Mo_step (Cond.code y_Mo_step b_Mo_step 8 (some .int) :: fm_T0) ({ frames := 8, cells := 0, slots := 0, locals := 250 }) (fm_Pc fm_lay fm_nf fm_fk fm_cl b x D dA (fm_tys dA) (fm_EX b x) false [.ref 586, .int (nI j), .int (nI c0)] n M) (fm_Qc fm_lay fm_nf fm_fk fm_cl b x D dA (fun r n' M' => r = some (.int (nI (am_done sc tbl j c0 m0))) ∧ n' = n ∧ hr_M M' (24 * j) (am_rounds sc tbl j c0 m0) ∧ am_W (am_rounds sc tbl j c0 m0) ∧ fr_R (24 * j) (fm_put1 M 586 0 (nI 0)) M')) 0 0 (fm_A b) := by
  refine fm_enter (by decide) (Nat.le_of_ble_eq_true rfl) ?_
  intro p e s m args below meth c9 hc hr hnm hex htg
  have hsb : ∀ q, q < 4 → ∀ i v : Nat, (sc q)[i]? = some v → v < 256 := fun q hq i v hv => ((hsc q hq).2.2 i v hv).2
  have hsl : ∀ q, q < 4 → (sc q).length ≤ 48 := fun q hq => (hsc q hq).2.1
  have hsc0 : ∀ q, q < 4 → hs_R (fm_put1 M 586 0 (nI 0)) q (sc q) := fun q hq => ⟨(p1_other (by decide)).trans (hsc q hq).1, (hsc q hq).2.1, fun i v hv => ⟨(p1_other (by decide)).trans ((hsc q hq).2.2 i v hv).1, ((hsc q hq).2.2 i v hv).2⟩⟩
  refine fm_aload_n hc d_Mo_step_0 rfl rfl ?_
  refine fm_aload_n hc d_Mo_step_1 rfl rfl ?_
  refine fm_iload_n hc d_Mo_step_2 rfl rfl ?_
  refine fm_iload_n hc d_Mo_step_3 rfl rfl ?_
  refine fm_iconst (v := nI 1) hc d_Mo_step_4 rfl ?_
  refine fm_bipush (v := nI 40) hc d_Mo_step_5 rfl ?_
  refine fm_callS (av := [.int (nI c0), .int (nI 1), .int (nI 40)]) (rest := [.int (nI j), .ref 586, .ref 586]) (y := y_Mo_within) (bytes := b_Mo_within) hc fm_T0_good (fm_EX_st b x) hex q_1049 q_13 q_1047 q_1048 pd_Mo_within (c_Mo_within_ok ⟨hnlt (a := c0) (c := 1) (by omega) (by omega), hnlt (a := 40) (c := c0) (by omega) (by omega)⟩) ⟨rfl, rfl, Nat.le_of_ble_eq_true rfl, Nat.le_of_ble_eq_true rfl⟩ ⟨Nat.le_of_ble_eq_true rfl, Nat.le_of_ble_eq_true rfl⟩ d_Mo_step_7 (Nat.le_of_ble_eq_true rfl) (fun r n2 M2 hp => ?_)
  obtain ⟨rfl, hq1, hq2⟩ := hp
  replace hq1 := hq1.symm
  replace hq2 := hq2.symm
  subst hq1 hq2
  refine fm_cnt (z' := (0, 0)) rfl (fm_st (st' := [.int (nI 1), .int (nI j), .ref 586, .ref 586]) rfl ?_)
  refine fm_callV (av := [.int (nI j), .int (nI 1)]) (rest := [.ref 586]) (ob := 586) (ci := 11) (r0 := ("AgentNetModel", F_Mo, 51)) (y := y_Mo_wrongAt) (bytes := b_Mo_wrongAt) hc fm_T0_good (fm_EX_st b x) hex q_1078 q_13 q_1075 q_1077 qs_Mo_wrongAt pd_Mo_wrongAt (by decide) (by omega) (by decide) (by decide) rfl rfl (c_wrongAt_fine hn hR hj hu) ⟨rfl, rfl, Nat.le_of_ble_eq_true rfl, Nat.le_of_ble_eq_true rfl⟩ ⟨Nat.le_of_ble_eq_true rfl, Nat.le_of_ble_eq_true rfl⟩ d_Mo_step_10 (Nat.le_of_ble_eq_true rfl) (fun r n2 M2 hp => ?_)
  obtain ⟨rfl, hq1, hq2⟩ := hp
  replace hq1 := hq1.symm
  replace hq2 := hq2.symm
  subst hq1 hq2
  refine fm_cnt (z' := (0, 0)) rfl (fm_st (st' := [.int (nI 0), .ref 586]) rfl ?_)
  refine fm_putI (k := 0) (v := nI 0) hc K_Mo d_Mo_step_13 q_885 rfl (by decide) (by omega) (by decide) (by decide) (by decide) rfl rfl rfl rfl ?_
  refine fm_aload_n hc d_Mo_step_16 rfl rfl ?_
  refine fm_getI (k := 0) hc K_Mo d_Mo_step_17 q_885 rfl (by decide) (by omega) (by decide) (by decide) (by decide) rfl ?_
  refine fm_top (congrArg Value.int (p1_same _ _ _ _)) ?_
  refine fm_if_le (tgt := 25) hc d_Mo_step_20 rfl (fun _ => ?_) (fun g => absurd (by decide) g)
  refine fm_iconst (v := nI 0) hc d_Mo_step_25 rfl ?_
  refine fm_istore_n (lv' := [(3, .int (nI 0)), (0, .ref 586), (1, .int (nI j)), (2, .int (nI c0))]) hc d_Mo_step_26 rfl (by decide) rfl ?_
  refine fm_iconst (v := nI 0) hc d_Mo_step_27 rfl ?_
  refine fm_istore (lv' := [(4, .int (nI 0)), (3, .int (nI 0)), (0, .ref 586), (1, .int (nI j)), (2, .int (nI c0))]) hc d_Mo_step_28 (by decide) rfl ?_
  refine fm_dropl (lv' := [(4, .int (nI 0)), (3, .int (nI (am_done sc tbl j 0 m0))), (0, .ref 586), (1, .int (nI j)), (2, .int (nI c0))]) (by simp [am_done]) ?_
  refine fm_loopI (N := c0) (lv := fun k => [(4, .int (nI k)), (3, .int (nI (am_done sc tbl j k m0))), (0, .ref 586), (1, .int (nI j)), (2, .int (nI c0))]) (I := fun k M' => hr_M M' (24 * j) (am_rounds sc tbl j k m0) ∧ am_W (am_rounds sc tbl j k m0) ∧ fr_R (24 * j) (fm_put1 M 586 0 (nI 0)) M') (fun k Mk hk hI ih => ?_) (fun Mk hI => ?_) ⟨hrM_o (by decide) h, hW, frR_rf _ _⟩
  · obtain ⟨i1, i2, i3⟩ := hI
    have hRk : fm_RP Mk := frR_RP i3 hR
    have hdn : (am_done sc tbl j (k + 1) m0) = (am_done sc tbl j k m0) + am_cnt (am_on (am_rounds sc tbl j k m0)) 8 := rfl
    have hrn : (am_rounds sc tbl j (k + 1) m0) = am_run sc tbl j (am_on (am_rounds sc tbl j k m0)) 8 (am_rounds sc tbl j k m0) := rfl
    rw [hdn, hrn] at ih
    generalize (am_done sc tbl j k m0) = dk at ih ⊢
    generalize (am_rounds sc tbl j k m0) = mk at i1 i2 ih
    refine fm_iload hc d_Mo_step_30 rfl ?_
    refine fm_iload_n hc d_Mo_step_32 rfl rfl ?_
    refine fm_icmp_ge (tgt := 191) hc d_Mo_step_33 rfl (fun g => absurd g (hnle (a := c0) (c := k) hk (by omega))) (fun _ => ?_)
    refine fm_iconst (v := nI 0) hc d_Mo_step_36 rfl ?_
    refine fm_istore (lv' := [(5, .int (nI 0)), (4, .int (nI k)), (3, .int (nI dk)), (0, .ref 586), (1, .int (nI j)), (2, .int (nI c0))]) hc d_Mo_step_37 (by decide) rfl ?_
    refine fm_dropl (lv' := [(5, .int (nI 0)), (4, .int (nI k)), (3, .int (nI dk)), (0, .ref 586), (1, .int (nI j)), (2, .int (nI c0))]) (by simp) ?_
    refine fm_loopI (N := 8) (lv := fun u => [(5, .int (nI u)), (4, .int (nI k)), (3, .int (nI dk)), (0, .ref 586), (1, .int (nI j)), (2, .int (nI c0))]) (I := fun u M' => hr_M M' (24 * j) mk ∧ fr_R (24 * j) (fm_put1 M 586 0 (nI 0)) M' ∧ ∀ c, c < u → M'.1 604 c = nI (if am_on mk c then 1 else 0)) (fun u Mu hu8 hI ihu => ?_) (fun Mu hI => ?_) ⟨i1, i3, fun c hc8 => absurd hc8 (Nat.not_lt_zero c)⟩
    · obtain ⟨j1, j2, j3⟩ := hI
      have hRu : fm_RP Mu := frR_RP j2 hR
      have fin : ∀ v : Nat, v = (if am_on mk u then 1 else 0) → hr_M (fm_put1 Mu 604 u (nI v)) (24 * j) mk ∧ fr_R (24 * j) (fm_put1 M 586 0 (nI 0)) (fm_put1 Mu 604 u (nI v)) ∧ ∀ c, c < u + 1 → (fm_put1 Mu 604 u (nI v)).1 604 c = nI (if am_on mk c then 1 else 0) := by
        intro v hv
        refine ⟨hrM_t j1, frR_p1 (Or.inr (Or.inr (Or.inl rfl))) j2, fun c hc8 => ?_⟩
        by_cases g : c = u
        · subst g
          rw [p1_same, hv]
        · rw [p1_at g]
          exact j3 c (by omega)
      obtain ⟨S1, K1, O1, T1, G1, H1, V1, D1⟩ := mk
      have on_eq : am_on (S1, K1, O1, T1, G1, H1, V1, D1) u = (decide (S1 u = 1) && decide (1 ≤ (G1 u).1 3) && decide ((G1 u).1 6 = 0)) := rfl
      have s4 := i2.1 u hu8
      have hsl1 : Mu.1 597 (24 * j + u) = nI (S1 u) := j1.1 u hu8
      by_cases g1 : S1 u = 1
      · have wk := i2.2.1 u hu8 (by rw [g1]; decide)
        have w6 : (G1 u).1 4 + (G1 u).1 3 ≤ 200 := wk.2.2.2.2.2.1
        have w20 : (G1 u).1 6 ≤ 20 := wk.2.2.2.2.2.2.2.1
        obtain ⟨gg, hgg⟩ := j1.2.2.2.2.2.2.2.2 u hu8 (by rw [g1]; decide)
        have hfu : Mu.1 607 (24 * j + u) = nI ((G1 u).1 3) := hgg.1 3 (by decide) (by decide) trivial
        have hwt : Mu.1 610 (24 * j + u) = nI ((G1 u).1 6) := hgg.1 6 (by decide) (by decide) trivial
        by_cases g2 : (G1 u).1 3 = 0
        · refine fm_iload hc d_Mo_step_39 rfl ?_
          refine fm_bipush (v := nI 8) hc d_Mo_step_41 rfl ?_
          refine fm_icmp_ge (tgt := 104) hc d_Mo_step_43 rfl (fun g => absurd g (hnle (a := 8) (c := u) hu8 (by omega))) (fun _ => ?_)
          refine fm_bipush (v := nI 24) hc d_Mo_step_46 rfl ?_
          refine fm_iload_n hc d_Mo_step_48 rfl rfl ?_
          refine fm_imul hc d_Mo_step_49 ?_
          refine fm_top (congrArg Value.int (pk_mul 24 j)) ?_
          refine fm_iload hc d_Mo_step_50 rfl ?_
          refine fm_iadd hc d_Mo_step_52 ?_
          refine fm_top (congrArg Value.int (nI_add (24 * j) u)) ?_
          refine fm_istore (lv' := [(6, .int (nI ((24 * j) + u))), (5, .int (nI u)), (4, .int (nI k)), (3, .int (nI dk)), (0, .ref 586), (1, .int (nI j)), (2, .int (nI c0))]) hc d_Mo_step_53 (by decide) rfl ?_
          refine fm_aload_n hc d_Mo_step_55 rfl rfl ?_
          refine fm_getR (k := 19) (q := 604) hc K_Mo d_Mo_step_56 q_904 rfl (by decide) (by omega) (by decide) (by decide) (by decide) rfl (rp_turn hRu) ?_
          refine fm_iload hc d_Mo_step_59 rfl ?_
          refine fm_aload_n hc d_Mo_step_61 rfl rfl ?_
          refine fm_getR (k := 12) (q := 597) hc K_Mo d_Mo_step_62 q_897 rfl (by decide) (by omega) (by decide) (by decide) (by decide) rfl (rp_slot hRu) ?_
          refine fm_iload hc d_Mo_step_65 rfl ?_
          refine fm_iald (j := (24 * j) + u) (len := 96) hc 0 d_Mo_step_67 (by decide) (by omega) (by decide) rfl (by omega) (by decide) ?_
          refine fm_top (congrArg Value.int hsl1) ?_
          refine fm_iconst (v := nI 1) hc d_Mo_step_68 rfl ?_
          refine fm_icmp_ne (tgt := 96) hc d_Mo_step_69 rfl (fun g => absurd (congrArg nI g1) g) (fun _ => ?_)
          refine fm_aload_n hc d_Mo_step_72 rfl rfl ?_
          refine fm_getR (k := 22) (q := 607) hc K_Mo d_Mo_step_73 q_907 rfl (by decide) (by omega) (by decide) (by decide) (by decide) rfl (rp_fuel hRu) ?_
          refine fm_iload hc d_Mo_step_76 rfl ?_
          refine fm_iald (j := (24 * j) + u) (len := 98) hc 0 d_Mo_step_78 (by decide) (by omega) (by decide) rfl (by omega) (by decide) ?_
          refine fm_top (congrArg Value.int hfu) ?_
          refine fm_if_le (tgt := 96) hc d_Mo_step_79 rfl (fun _ => ?_) (fun g => absurd (by rw [g2]; decide) g)
          refine fm_iconst (v := nI 0) hc d_Mo_step_96 rfl ?_
          refine fm_zast (j := u) (len := 8) (v := nI 0) hc 1 d_Mo_step_97 (by decide) (by omega) (by decide) rfl (by omega) (by decide) ?_
          refine fm_mem (M' := fm_put1 Mu 604 u (nI 0)) rfl rfl ?_
          refine fm_iinc (v := nI (u + 1)) (lv' := [(5, .int (nI (u + 1))), (6, .int (nI ((24 * j) + u))), (4, .int (nI k)), (3, .int (nI dk)), (0, .ref 586), (1, .int (nI j)), (2, .int (nI c0))]) hc d_Mo_step_98 rfl (nI_1 u) (by decide) rfl ?_
          refine fm_goto (tgt := 39) hc d_Mo_step_101 rfl ?_
          refine fm_dropl (lv' := [(5, .int (nI (u + 1))), (4, .int (nI k)), (3, .int (nI dk)), (0, .ref 586), (1, .int (nI j)), (2, .int (nI c0))]) (by simp) ?_
          exact ihu _ (fin 0 (by rw [on_eq, g2, decide_eq_false (show ¬ 1 ≤ 0 by decide), Bool.and_false]; rfl))
        · by_cases g3 : (G1 u).1 6 = 0
          · refine fm_iload hc d_Mo_step_39 rfl ?_
            refine fm_bipush (v := nI 8) hc d_Mo_step_41 rfl ?_
            refine fm_icmp_ge (tgt := 104) hc d_Mo_step_43 rfl (fun g => absurd g (hnle (a := 8) (c := u) hu8 (by omega))) (fun _ => ?_)
            refine fm_bipush (v := nI 24) hc d_Mo_step_46 rfl ?_
            refine fm_iload_n hc d_Mo_step_48 rfl rfl ?_
            refine fm_imul hc d_Mo_step_49 ?_
            refine fm_top (congrArg Value.int (pk_mul 24 j)) ?_
            refine fm_iload hc d_Mo_step_50 rfl ?_
            refine fm_iadd hc d_Mo_step_52 ?_
            refine fm_top (congrArg Value.int (nI_add (24 * j) u)) ?_
            refine fm_istore (lv' := [(6, .int (nI ((24 * j) + u))), (5, .int (nI u)), (4, .int (nI k)), (3, .int (nI dk)), (0, .ref 586), (1, .int (nI j)), (2, .int (nI c0))]) hc d_Mo_step_53 (by decide) rfl ?_
            refine fm_aload_n hc d_Mo_step_55 rfl rfl ?_
            refine fm_getR (k := 19) (q := 604) hc K_Mo d_Mo_step_56 q_904 rfl (by decide) (by omega) (by decide) (by decide) (by decide) rfl (rp_turn hRu) ?_
            refine fm_iload hc d_Mo_step_59 rfl ?_
            refine fm_aload_n hc d_Mo_step_61 rfl rfl ?_
            refine fm_getR (k := 12) (q := 597) hc K_Mo d_Mo_step_62 q_897 rfl (by decide) (by omega) (by decide) (by decide) (by decide) rfl (rp_slot hRu) ?_
            refine fm_iload hc d_Mo_step_65 rfl ?_
            refine fm_iald (j := (24 * j) + u) (len := 96) hc 0 d_Mo_step_67 (by decide) (by omega) (by decide) rfl (by omega) (by decide) ?_
            refine fm_top (congrArg Value.int hsl1) ?_
            refine fm_iconst (v := nI 1) hc d_Mo_step_68 rfl ?_
            refine fm_icmp_ne (tgt := 96) hc d_Mo_step_69 rfl (fun g => absurd (congrArg nI g1) g) (fun _ => ?_)
            refine fm_aload_n hc d_Mo_step_72 rfl rfl ?_
            refine fm_getR (k := 22) (q := 607) hc K_Mo d_Mo_step_73 q_907 rfl (by decide) (by omega) (by decide) (by decide) (by decide) rfl (rp_fuel hRu) ?_
            refine fm_iload hc d_Mo_step_76 rfl ?_
            refine fm_iald (j := (24 * j) + u) (len := 98) hc 0 d_Mo_step_78 (by decide) (by omega) (by decide) rfl (by omega) (by decide) ?_
            refine fm_top (congrArg Value.int hfu) ?_
            refine fm_if_le (tgt := 96) hc d_Mo_step_79 rfl (fun g => absurd g (fun q => g2 (by have := (nI_leI (a := (G1 u).1 3) (b := 0) (by omega) (by decide)).mp q; omega))) (fun _ => ?_)
            refine fm_aload_n hc d_Mo_step_82 rfl rfl ?_
            refine fm_getR (k := 25) (q := 610) hc K_Mo d_Mo_step_83 q_910 rfl (by decide) (by omega) (by decide) (by decide) (by decide) rfl (rp_wait hRu) ?_
            refine fm_iload hc d_Mo_step_86 rfl ?_
            refine fm_iald (j := (24 * j) + u) (len := 98) hc 0 d_Mo_step_88 (by decide) (by omega) (by decide) rfl (by omega) (by decide) ?_
            refine fm_top (congrArg Value.int hwt) ?_
            refine fm_if_ne (tgt := 96) hc d_Mo_step_89 rfl (fun g => absurd (congrArg nI g3) g) (fun _ => ?_)
            refine fm_iconst (v := nI 1) hc d_Mo_step_92 rfl ?_
            refine fm_goto (tgt := 97) hc d_Mo_step_93 rfl ?_
            refine fm_zast (j := u) (len := 8) (v := nI 1) hc 1 d_Mo_step_97 (by decide) (by omega) (by decide) rfl (by omega) (by decide) ?_
            refine fm_mem (M' := fm_put1 Mu 604 u (nI 1)) rfl rfl ?_
            refine fm_iinc (v := nI (u + 1)) (lv' := [(5, .int (nI (u + 1))), (6, .int (nI ((24 * j) + u))), (4, .int (nI k)), (3, .int (nI dk)), (0, .ref 586), (1, .int (nI j)), (2, .int (nI c0))]) hc d_Mo_step_98 rfl (nI_1 u) (by decide) rfl ?_
            refine fm_goto (tgt := 39) hc d_Mo_step_101 rfl ?_
            refine fm_dropl (lv' := [(5, .int (nI (u + 1))), (4, .int (nI k)), (3, .int (nI dk)), (0, .ref 586), (1, .int (nI j)), (2, .int (nI c0))]) (by simp) ?_
            exact ihu _ (fin 1 (by rw [on_eq, g3, decide_eq_true g1, decide_eq_true (show 1 ≤ (G1 u).1 3 by omega)]; rfl))
          · refine fm_iload hc d_Mo_step_39 rfl ?_
            refine fm_bipush (v := nI 8) hc d_Mo_step_41 rfl ?_
            refine fm_icmp_ge (tgt := 104) hc d_Mo_step_43 rfl (fun g => absurd g (hnle (a := 8) (c := u) hu8 (by omega))) (fun _ => ?_)
            refine fm_bipush (v := nI 24) hc d_Mo_step_46 rfl ?_
            refine fm_iload_n hc d_Mo_step_48 rfl rfl ?_
            refine fm_imul hc d_Mo_step_49 ?_
            refine fm_top (congrArg Value.int (pk_mul 24 j)) ?_
            refine fm_iload hc d_Mo_step_50 rfl ?_
            refine fm_iadd hc d_Mo_step_52 ?_
            refine fm_top (congrArg Value.int (nI_add (24 * j) u)) ?_
            refine fm_istore (lv' := [(6, .int (nI ((24 * j) + u))), (5, .int (nI u)), (4, .int (nI k)), (3, .int (nI dk)), (0, .ref 586), (1, .int (nI j)), (2, .int (nI c0))]) hc d_Mo_step_53 (by decide) rfl ?_
            refine fm_aload_n hc d_Mo_step_55 rfl rfl ?_
            refine fm_getR (k := 19) (q := 604) hc K_Mo d_Mo_step_56 q_904 rfl (by decide) (by omega) (by decide) (by decide) (by decide) rfl (rp_turn hRu) ?_
            refine fm_iload hc d_Mo_step_59 rfl ?_
            refine fm_aload_n hc d_Mo_step_61 rfl rfl ?_
            refine fm_getR (k := 12) (q := 597) hc K_Mo d_Mo_step_62 q_897 rfl (by decide) (by omega) (by decide) (by decide) (by decide) rfl (rp_slot hRu) ?_
            refine fm_iload hc d_Mo_step_65 rfl ?_
            refine fm_iald (j := (24 * j) + u) (len := 96) hc 0 d_Mo_step_67 (by decide) (by omega) (by decide) rfl (by omega) (by decide) ?_
            refine fm_top (congrArg Value.int hsl1) ?_
            refine fm_iconst (v := nI 1) hc d_Mo_step_68 rfl ?_
            refine fm_icmp_ne (tgt := 96) hc d_Mo_step_69 rfl (fun g => absurd (congrArg nI g1) g) (fun _ => ?_)
            refine fm_aload_n hc d_Mo_step_72 rfl rfl ?_
            refine fm_getR (k := 22) (q := 607) hc K_Mo d_Mo_step_73 q_907 rfl (by decide) (by omega) (by decide) (by decide) (by decide) rfl (rp_fuel hRu) ?_
            refine fm_iload hc d_Mo_step_76 rfl ?_
            refine fm_iald (j := (24 * j) + u) (len := 98) hc 0 d_Mo_step_78 (by decide) (by omega) (by decide) rfl (by omega) (by decide) ?_
            refine fm_top (congrArg Value.int hfu) ?_
            refine fm_if_le (tgt := 96) hc d_Mo_step_79 rfl (fun g => absurd g (fun q => g2 (by have := (nI_leI (a := (G1 u).1 3) (b := 0) (by omega) (by decide)).mp q; omega))) (fun _ => ?_)
            refine fm_aload_n hc d_Mo_step_82 rfl rfl ?_
            refine fm_getR (k := 25) (q := 610) hc K_Mo d_Mo_step_83 q_910 rfl (by decide) (by omega) (by decide) (by decide) (by decide) rfl (rp_wait hRu) ?_
            refine fm_iload hc d_Mo_step_86 rfl ?_
            refine fm_iald (j := (24 * j) + u) (len := 98) hc 0 d_Mo_step_88 (by decide) (by omega) (by decide) rfl (by omega) (by decide) ?_
            refine fm_top (congrArg Value.int hwt) ?_
            refine fm_if_ne (tgt := 96) hc d_Mo_step_89 rfl (fun _ => ?_) (fun g => absurd g (fun q => g3 (nI_inj (a := (G1 u).1 6) (c := 0) (by omega) (by decide) q)))
            refine fm_iconst (v := nI 0) hc d_Mo_step_96 rfl ?_
            refine fm_zast (j := u) (len := 8) (v := nI 0) hc 1 d_Mo_step_97 (by decide) (by omega) (by decide) rfl (by omega) (by decide) ?_
            refine fm_mem (M' := fm_put1 Mu 604 u (nI 0)) rfl rfl ?_
            refine fm_iinc (v := nI (u + 1)) (lv' := [(5, .int (nI (u + 1))), (6, .int (nI ((24 * j) + u))), (4, .int (nI k)), (3, .int (nI dk)), (0, .ref 586), (1, .int (nI j)), (2, .int (nI c0))]) hc d_Mo_step_98 rfl (nI_1 u) (by decide) rfl ?_
            refine fm_goto (tgt := 39) hc d_Mo_step_101 rfl ?_
            refine fm_dropl (lv' := [(5, .int (nI (u + 1))), (4, .int (nI k)), (3, .int (nI dk)), (0, .ref 586), (1, .int (nI j)), (2, .int (nI c0))]) (by simp) ?_
            exact ihu _ (fin 0 (by rw [on_eq, decide_eq_false g3, Bool.and_false]; rfl))
      · refine fm_iload hc d_Mo_step_39 rfl ?_
        refine fm_bipush (v := nI 8) hc d_Mo_step_41 rfl ?_
        refine fm_icmp_ge (tgt := 104) hc d_Mo_step_43 rfl (fun g => absurd g (hnle (a := 8) (c := u) hu8 (by omega))) (fun _ => ?_)
        refine fm_bipush (v := nI 24) hc d_Mo_step_46 rfl ?_
        refine fm_iload_n hc d_Mo_step_48 rfl rfl ?_
        refine fm_imul hc d_Mo_step_49 ?_
        refine fm_top (congrArg Value.int (pk_mul 24 j)) ?_
        refine fm_iload hc d_Mo_step_50 rfl ?_
        refine fm_iadd hc d_Mo_step_52 ?_
        refine fm_top (congrArg Value.int (nI_add (24 * j) u)) ?_
        refine fm_istore (lv' := [(6, .int (nI ((24 * j) + u))), (5, .int (nI u)), (4, .int (nI k)), (3, .int (nI dk)), (0, .ref 586), (1, .int (nI j)), (2, .int (nI c0))]) hc d_Mo_step_53 (by decide) rfl ?_
        refine fm_aload_n hc d_Mo_step_55 rfl rfl ?_
        refine fm_getR (k := 19) (q := 604) hc K_Mo d_Mo_step_56 q_904 rfl (by decide) (by omega) (by decide) (by decide) (by decide) rfl (rp_turn hRu) ?_
        refine fm_iload hc d_Mo_step_59 rfl ?_
        refine fm_aload_n hc d_Mo_step_61 rfl rfl ?_
        refine fm_getR (k := 12) (q := 597) hc K_Mo d_Mo_step_62 q_897 rfl (by decide) (by omega) (by decide) (by decide) (by decide) rfl (rp_slot hRu) ?_
        refine fm_iload hc d_Mo_step_65 rfl ?_
        refine fm_iald (j := (24 * j) + u) (len := 96) hc 0 d_Mo_step_67 (by decide) (by omega) (by decide) rfl (by omega) (by decide) ?_
        refine fm_top (congrArg Value.int hsl1) ?_
        refine fm_iconst (v := nI 1) hc d_Mo_step_68 rfl ?_
        refine fm_icmp_ne (tgt := 96) hc d_Mo_step_69 rfl (fun _ => ?_) (fun g => absurd g (fun q => g1 (nI_inj (by omega) (by decide) q)))
        refine fm_iconst (v := nI 0) hc d_Mo_step_96 rfl ?_
        refine fm_zast (j := u) (len := 8) (v := nI 0) hc 1 d_Mo_step_97 (by decide) (by omega) (by decide) rfl (by omega) (by decide) ?_
        refine fm_mem (M' := fm_put1 Mu 604 u (nI 0)) rfl rfl ?_
        refine fm_iinc (v := nI (u + 1)) (lv' := [(5, .int (nI (u + 1))), (6, .int (nI ((24 * j) + u))), (4, .int (nI k)), (3, .int (nI dk)), (0, .ref 586), (1, .int (nI j)), (2, .int (nI c0))]) hc d_Mo_step_98 rfl (nI_1 u) (by decide) rfl ?_
        refine fm_goto (tgt := 39) hc d_Mo_step_101 rfl ?_
        refine fm_dropl (lv' := [(5, .int (nI (u + 1))), (4, .int (nI k)), (3, .int (nI dk)), (0, .ref 586), (1, .int (nI j)), (2, .int (nI c0))]) (by simp) ?_
        exact ihu _ (fin 0 (by rw [on_eq, decide_eq_false g1]; rfl))
    · obtain ⟨j1, j2, j3⟩ := hI
      have hRu : fm_RP Mu := frR_RP j2 hR
      refine fm_iload hc d_Mo_step_39 rfl ?_
      refine fm_bipush (v := nI 8) hc d_Mo_step_41 rfl ?_
      refine fm_icmp_ge (tgt := 104) hc d_Mo_step_43 rfl (fun _ => ?_) (fun g => absurd (by decide) g)
      refine fm_iconst (v := nI 0) hc d_Mo_step_104 rfl ?_
      refine fm_istore (lv' := [(5, .int (nI 0)), (4, .int (nI k)), (3, .int (nI dk)), (0, .ref 586), (1, .int (nI j)), (2, .int (nI c0))]) hc d_Mo_step_105 (by decide) rfl ?_
      refine fm_dropl (lv' := [(5, .int (nI 0)), (4, .int (nI k)), (3, .int (nI (dk + am_cnt (am_on mk) 0))), (0, .ref 586), (1, .int (nI j)), (2, .int (nI c0))]) (by simp [am_cnt]) ?_
      refine fm_loopI (N := 8) (lv := fun q => [(5, .int (nI q)), (4, .int (nI k)), (3, .int (nI (dk + am_cnt (am_on mk) q))), (0, .ref 586), (1, .int (nI j)), (2, .int (nI c0))]) (I := fun q M' => hr_M M' (24 * j) (am_run sc tbl j (am_on mk) q mk) ∧ fr_R (24 * j) (fm_put1 M 586 0 (nI 0)) M' ∧ ∀ c, c < 8 → M'.1 604 c = nI (if am_on mk c then 1 else 0)) (fun q Mq hq8 hI ihq => ?_) (fun Mq hI => ?_) ⟨j1, j2, j3⟩
      · obtain ⟨l1, l2, l3⟩ := hI
        have hRq : fm_RP Mq := frR_RP l2 hR
        obtain ⟨a1, a2⟩ := amW_run (he := j) (tbl := tbl) hsb hsl i2 q (by omega)
        cases ht : am_on mk q with
        | false =>
          have h604 : Mq.1 604 q = nI 0 := by rw [l3 q hq8, ht]; rfl
          refine fm_iload hc d_Mo_step_107 rfl ?_
          refine fm_bipush (v := nI 8) hc d_Mo_step_109 rfl ?_
          refine fm_icmp_ge (tgt := 185) hc d_Mo_step_111 rfl (fun g => absurd g (hnle (a := 8) (c := q) hq8 (by omega))) (fun _ => ?_)
          refine fm_aload_n hc d_Mo_step_114 rfl rfl ?_
          refine fm_getR (k := 19) (q := 604) hc K_Mo d_Mo_step_115 q_904 rfl (by decide) (by omega) (by decide) (by decide) (by decide) rfl (rp_turn hRq) ?_
          refine fm_iload hc d_Mo_step_118 rfl ?_
          refine fm_zald (j := q) (len := 8) hc 1 d_Mo_step_120 (by decide) (by omega) (by decide) rfl (by omega) (by decide) ?_
          refine fm_top (congrArg Value.int h604) ?_
          refine fm_if_eq (tgt := 179) hc d_Mo_step_121 rfl (fun _ => ?_) (fun g => absurd (by decide) g)
          refine fm_iinc (v := nI (q + 1)) (lv' := [(5, .int (nI (q + 1))), (4, .int (nI k)), (3, .int (nI (dk + am_cnt (am_on mk) q))), (0, .ref 586), (1, .int (nI j)), (2, .int (nI c0))]) hc d_Mo_step_179 rfl (nI_1 q) (by decide) rfl ?_
          refine fm_goto (tgt := 107) hc d_Mo_step_182 rfl ?_
          refine fm_dropl (lv' := [(5, .int (nI (q + 1))), (4, .int (nI k)), (3, .int (nI (dk + am_cnt (am_on mk) q))), (0, .ref 586), (1, .int (nI j)), (2, .int (nI c0))]) (by simp) ?_
          rw [← (run_no (sc := sc) (tbl := tbl) (he := j) (m := mk) ht).2]
          exact ihq _ ⟨by rw [(run_no ht).1]; exact l1, l2, l3⟩
        | true =>
          have h604 : Mq.1 604 q = nI 1 := by rw [l3 q hq8, ht]; rfl
          have yes := run_yes (sc := sc) (tbl := tbl) (he := j) (m := mk) ht
          have hm : (am_run sc tbl j (am_on mk) q mk).1 q = 1 ∧ 1 ≤ ((am_run sc tbl j (am_on mk) q mk).2.2.2.2.1 q).1 3 := by
            clear ihq ih l1
            generalize (am_run sc tbl j (am_on mk) q mk) = m at a1 a2
            obtain ⟨S0, K0, O0, T0, G0, H0, V0, D0⟩ := mk
            obtain ⟨S, K, O, T, G, H, V, D9⟩ := m
            have ht : (decide (S0 q = 1) && decide (1 ≤ (G0 q).1 3) && decide ((G0 q).1 6 = 0)) = true := ht
            rw [Bool.and_eq_true, Bool.and_eq_true, decide_eq_true_eq, decide_eq_true_eq, decide_eq_true_eq] at ht
            obtain ⟨e1, e2⟩ := a2.2.2.1 q (Nat.le_refl q) (by omega) ht.1.1
            refine ⟨e1, ?_⟩
            show 1 ≤ (G q).1 3
            rw [e2]
            exact ht.1.2
          rw [yes.1, yes.2] at ihq
          generalize (am_run sc tbl j (am_on mk) q mk) = mq at a1 l1 hm ihq
          obtain ⟨S1, K1, O1, T1, G1, H1, V1, D1⟩ := mq
          have hS : S1 q = 1 := hm.1
          have hf1 : 1 ≤ (G1 q).1 3 := hm.2
          have wk := a1.2.1 q hq8 (by rw [hS]; decide)
          have hp4 : (G1 q).1 1 < 4 := wk.2.2.2.1
          have w0 : (G1 q).1 0 = q := wk.2.2.1
          have w2 : (G1 q).1 2 < 256 := wk.2.2.2.2.1
          have w6 : (G1 q).1 4 + (G1 q).1 3 ≤ 200 := wk.2.2.2.2.2.1
          have w5 : (G1 q).1 5 ≤ 16 := wk.2.2.2.2.2.2.1
          have w7 : (G1 q).1 7 ≤ 1 := wk.2.2.2.2.2.2.2.2
          obtain ⟨gg, hgg⟩ := l1.2.2.2.2.2.2.2.2 q hq8 (by rw [hS]; decide)
          obtain ⟨s1, s2, s3, -, -, -, -⟩ := step_wf (he := j) (tbl := tbl) wk hf1 (hsb _ hp4) (hsl _ hp4)
          have k3 := kid_wf (he := j) (tbl := tbl) wk hf1 (hsb _ hp4) (hsl _ hp4)
          have h16 : (G1 q).1 5 < 16 ∨ (ag_step (sc ((G1 q).1 1)) tbl j (G1 q)).1 ≠ 1 := by
            by_cases g : (ag_step (sc ((G1 q).1 1)) tbl j (G1 q)).1 = 1
            · rw [if_pos g] at s3
              have := s1.2.2.2.2.2.2.1
              exact Or.inl (by omega)
            · exact Or.inr g
          have hwork := rc_work_m (l := l) (b := b) (x := x) (D := D) (dA := dA) (gi := 24 * j + q) (he := j) (n := n) (N := (G1 q).1) (s0 := (G1 q).2.1) (p := (G1 q).2.2) (g := gg) (sc := sc ((G1 q).1 1)) (tbl := tbl) (M := Mq) hn hRq hj (by omega) (by rw [w0]; omega) hgg wk.1 wk.2.1 hp4 (hsR_R l2 (hsc0 _ hp4)) (fun c hc8 => (frR_lo (by decide) (by decide) l2).trans ((p1_other (by decide)).trans (htb c hc8))) (by omega) hf1 (by omega) (by omega) w7
          have hone : ∀ Ma, rW_m (24 * j + q) Mq (G1 q) (ag_step (sc ((G1 q).1 1)) tbl j (G1 q)) Ma → hr_M (if (ag_step (sc ((G1 q).1 1)) tbl j (G1 q)).1 = 5 then fm_put1 Ma 597 (24 * j + q) (nI 4) else if (ag_step (sc ((G1 q).1 1)) tbl j (G1 q)).1 = 4 then fm_put1 Ma 597 (24 * j + q) (nI 3) else Ma) (24 * j) (am_one sc tbl j q (S1, K1, O1, T1, G1, H1, V1, D1)) := fun Ma w => hrM_turn hq8 (fun a ha hs => (a1.2.1 a ha hs).1) (by rw [hS]; decide) h16 s1.2.2.2.2.2.2.2.2 s2 (fun g => (k3 g).1) w l1
          have hfr : ∀ Ma, rW_m (24 * j + q) Mq (G1 q) (ag_step (sc ((G1 q).1 1)) tbl j (G1 q)) Ma → fr_R (24 * j) Mq Ma := fun Ma w => rW_R hq8 h16 s2 (fun g => (k3 g).1) w
          by_cases g5 : (ag_step (sc ((G1 q).1 1)) tbl j (G1 q)).1 = 5
          · rw [if_pos g5] at hwork
            refine fm_iload hc d_Mo_step_107 rfl ?_
            refine fm_bipush (v := nI 8) hc d_Mo_step_109 rfl ?_
            refine fm_icmp_ge (tgt := 185) hc d_Mo_step_111 rfl (fun g => absurd g (hnle (a := 8) (c := q) hq8 (by omega))) (fun _ => ?_)
            refine fm_aload_n hc d_Mo_step_114 rfl rfl ?_
            refine fm_getR (k := 19) (q := 604) hc K_Mo d_Mo_step_115 q_904 rfl (by decide) (by omega) (by decide) (by decide) (by decide) rfl (rp_turn hRq) ?_
            refine fm_iload hc d_Mo_step_118 rfl ?_
            refine fm_zald (j := q) (len := 8) hc 1 d_Mo_step_120 (by decide) (by omega) (by decide) rfl (by omega) (by decide) ?_
            refine fm_top (congrArg Value.int h604) ?_
            refine fm_if_eq (tgt := 179) hc d_Mo_step_121 rfl (fun g => absurd g (by decide)) (fun _ => ?_)
            refine fm_bipush (v := nI 24) hc d_Mo_step_124 rfl ?_
            refine fm_iload_n hc d_Mo_step_126 rfl rfl ?_
            refine fm_imul hc d_Mo_step_127 ?_
            refine fm_top (congrArg Value.int (pk_mul 24 j)) ?_
            refine fm_iload hc d_Mo_step_128 rfl ?_
            refine fm_iadd hc d_Mo_step_130 ?_
            refine fm_top (congrArg Value.int (nI_add (24 * j) q)) ?_
            refine fm_istore (lv' := [(6, .int (nI ((24 * j) + q))), (5, .int (nI q)), (4, .int (nI k)), (3, .int (nI (dk + am_cnt (am_on mk) q))), (0, .ref 586), (1, .int (nI j)), (2, .int (nI c0))]) hc d_Mo_step_131 (by decide) rfl ?_
            refine fm_aload_n hc d_Mo_step_133 rfl rfl ?_
            refine fm_iload hc d_Mo_step_134 rfl ?_
            refine fm_iload_n hc d_Mo_step_136 rfl rfl ?_
            refine fm_callV (av := [.int (nI ((24 * j) + q)), .int (nI j)]) (rest := []) (ob := 586) (ci := 11) (r0 := ("AgentNetModel", F_Mo, 51)) (y := y_Mo_work) (bytes := b_Mo_work) hc fm_T0_good (fm_EX_st b x) hex q_1082 q_13 q_1079 q_1081 qs_Mo_work pd_Mo_work (by decide) (by omega) (by decide) (by decide) rfl rfl (hwork) ⟨rfl, rfl, Nat.le_of_ble_eq_true rfl, Nat.le_of_ble_eq_true rfl⟩ ⟨Nat.le_of_ble_eq_true rfl, Nat.le_of_ble_eq_true rfl⟩ d_Mo_step_137 (Nat.le_of_ble_eq_true rfl) (fun r n2 M2 hp => ?_)
            obtain ⟨rfl, hq1, r1⟩ := hp
            replace hq1 := hq1.symm
            subst hq1
            revert r1
            generalize M2 = Ma
            intro r1
            have r1 : rW_m (24 * j + q) Mq (G1 q) (ag_step (sc ((G1 q).1 1)) tbl j (G1 q)) Ma := r1
            have f1 := hfr Ma r1
            have hRa : fm_RP Ma := frR_RP f1 hRq
            have h1 := hone Ma r1
            have hend := rW_end s2 r1
            have t1 : ∀ c, Ma.1 604 c = Mq.1 604 c := fun c => rW_t s2 r1
            rw [if_pos g5] at h1
            refine fm_cnt (z' := (0, 0)) rfl (fm_st (st' := [.int (nI 0)]) rfl ?_)
            refine fm_istore (lv' := [(7, .int (nI 0)), (6, .int (nI ((24 * j) + q))), (5, .int (nI q)), (4, .int (nI k)), (3, .int (nI (dk + am_cnt (am_on mk) q))), (0, .ref 586), (1, .int (nI j)), (2, .int (nI c0))]) hc d_Mo_step_140 (by decide) rfl ?_
            refine fm_aload_n hc d_Mo_step_142 rfl rfl ?_
            refine fm_getR (k := 12) (q := 597) hc K_Mo d_Mo_step_143 q_897 rfl (by decide) (by omega) (by decide) (by decide) (by decide) rfl (rp_slot hRa) ?_
            refine fm_iload hc d_Mo_step_146 rfl ?_
            refine fm_iload hc d_Mo_step_148 rfl ?_
            refine fm_if_ne (tgt := 157) hc d_Mo_step_150 rfl (fun g => absurd (by decide) g) (fun _ => ?_)
            refine fm_iconst (v := nI 4) hc d_Mo_step_153 rfl ?_
            refine fm_goto (tgt := 175) hc d_Mo_step_154 rfl ?_
            refine fm_iast (j := (24 * j) + q) (len := 96) (v := nI 4) hc 0 d_Mo_step_175 (by decide) (by omega) (by decide) rfl (by omega) (by decide) ?_
            refine fm_iinc (v := nI (dk + am_cnt (am_on mk) q + 1)) (lv' := [(3, .int (nI (dk + am_cnt (am_on mk) q + 1))), (7, .int (nI 0)), (6, .int (nI ((24 * j) + q))), (5, .int (nI q)), (4, .int (nI k)), (0, .ref 586), (1, .int (nI j)), (2, .int (nI c0))]) hc d_Mo_step_176 rfl (nI_1 (dk + am_cnt (am_on mk) q)) (by decide) rfl ?_
            refine fm_iinc (v := nI (q + 1)) (lv' := [(5, .int (nI (q + 1))), (3, .int (nI (dk + am_cnt (am_on mk) q + 1))), (7, .int (nI 0)), (6, .int (nI ((24 * j) + q))), (4, .int (nI k)), (0, .ref 586), (1, .int (nI j)), (2, .int (nI c0))]) hc d_Mo_step_179 rfl (nI_1 q) (by decide) rfl ?_
            refine fm_goto (tgt := 107) hc d_Mo_step_182 rfl ?_
            refine fm_dropl (lv' := [(5, .int (nI (q + 1))), (4, .int (nI k)), (3, .int (nI (dk + (am_cnt (am_on mk) q + 1)))), (0, .ref 586), (1, .int (nI j)), (2, .int (nI c0))]) (by simp [Nat.add_assoc]) ?_
            exact ihq _ ⟨h1, frR_p1 (Or.inl (by omega)) (frR_tr l2 f1), fun c hc8 => (p1_other (by decide)).trans ((t1 c).trans (l3 c hc8))⟩
          · by_cases g4 : (ag_step (sc ((G1 q).1 1)) tbl j (G1 q)).1 = 4
            · rw [if_neg g5] at hwork
              refine fm_iload hc d_Mo_step_107 rfl ?_
              refine fm_bipush (v := nI 8) hc d_Mo_step_109 rfl ?_
              refine fm_icmp_ge (tgt := 185) hc d_Mo_step_111 rfl (fun g => absurd g (hnle (a := 8) (c := q) hq8 (by omega))) (fun _ => ?_)
              refine fm_aload_n hc d_Mo_step_114 rfl rfl ?_
              refine fm_getR (k := 19) (q := 604) hc K_Mo d_Mo_step_115 q_904 rfl (by decide) (by omega) (by decide) (by decide) (by decide) rfl (rp_turn hRq) ?_
              refine fm_iload hc d_Mo_step_118 rfl ?_
              refine fm_zald (j := q) (len := 8) hc 1 d_Mo_step_120 (by decide) (by omega) (by decide) rfl (by omega) (by decide) ?_
              refine fm_top (congrArg Value.int h604) ?_
              refine fm_if_eq (tgt := 179) hc d_Mo_step_121 rfl (fun g => absurd g (by decide)) (fun _ => ?_)
              refine fm_bipush (v := nI 24) hc d_Mo_step_124 rfl ?_
              refine fm_iload_n hc d_Mo_step_126 rfl rfl ?_
              refine fm_imul hc d_Mo_step_127 ?_
              refine fm_top (congrArg Value.int (pk_mul 24 j)) ?_
              refine fm_iload hc d_Mo_step_128 rfl ?_
              refine fm_iadd hc d_Mo_step_130 ?_
              refine fm_top (congrArg Value.int (nI_add (24 * j) q)) ?_
              refine fm_istore (lv' := [(6, .int (nI ((24 * j) + q))), (5, .int (nI q)), (4, .int (nI k)), (3, .int (nI (dk + am_cnt (am_on mk) q))), (0, .ref 586), (1, .int (nI j)), (2, .int (nI c0))]) hc d_Mo_step_131 (by decide) rfl ?_
              refine fm_aload_n hc d_Mo_step_133 rfl rfl ?_
              refine fm_iload hc d_Mo_step_134 rfl ?_
              refine fm_iload_n hc d_Mo_step_136 rfl rfl ?_
              refine fm_callV (av := [.int (nI ((24 * j) + q)), .int (nI j)]) (rest := []) (ob := 586) (ci := 11) (r0 := ("AgentNetModel", F_Mo, 51)) (y := y_Mo_work) (bytes := b_Mo_work) hc fm_T0_good (fm_EX_st b x) hex q_1082 q_13 q_1079 q_1081 qs_Mo_work pd_Mo_work (by decide) (by omega) (by decide) (by decide) rfl rfl (hwork) ⟨rfl, rfl, Nat.le_of_ble_eq_true rfl, Nat.le_of_ble_eq_true rfl⟩ ⟨Nat.le_of_ble_eq_true rfl, Nat.le_of_ble_eq_true rfl⟩ d_Mo_step_137 (Nat.le_of_ble_eq_true rfl) (fun r n2 M2 hp => ?_)
              obtain ⟨rfl, hq1, r1⟩ := hp
              replace hq1 := hq1.symm
              subst hq1
              revert r1
              generalize M2 = Ma
              intro r1
              have r1 : rW_m (24 * j + q) Mq (G1 q) (ag_step (sc ((G1 q).1 1)) tbl j (G1 q)) Ma := r1
              have f1 := hfr Ma r1
              have hRa : fm_RP Ma := frR_RP f1 hRq
              have h1 := hone Ma r1
              have hend := rW_end s2 r1
              have t1 : ∀ c, Ma.1 604 c = Mq.1 604 c := fun c => rW_t s2 r1
              rw [if_neg g5, if_pos g4] at h1
              rw [if_pos g4] at hend
              refine fm_cnt (z' := (0, 0)) rfl (fm_st (st' := [.int (nI 1)]) rfl ?_)
              refine fm_istore (lv' := [(7, .int (nI 1)), (6, .int (nI ((24 * j) + q))), (5, .int (nI q)), (4, .int (nI k)), (3, .int (nI (dk + am_cnt (am_on mk) q))), (0, .ref 586), (1, .int (nI j)), (2, .int (nI c0))]) hc d_Mo_step_140 (by decide) rfl ?_
              refine fm_aload_n hc d_Mo_step_142 rfl rfl ?_
              refine fm_getR (k := 12) (q := 597) hc K_Mo d_Mo_step_143 q_897 rfl (by decide) (by omega) (by decide) (by decide) (by decide) rfl (rp_slot hRa) ?_
              refine fm_iload hc d_Mo_step_146 rfl ?_
              refine fm_iload hc d_Mo_step_148 rfl ?_
              refine fm_if_ne (tgt := 157) hc d_Mo_step_150 rfl (fun _ => ?_) (fun g => absurd g (by decide))
              refine fm_aload_n hc d_Mo_step_157 rfl rfl ?_
              refine fm_getI (k := 50) hc K_Mo d_Mo_step_158 q_935 rfl (by decide) (by omega) (by decide) (by decide) (by decide) rfl ?_
              refine fm_top (congrArg Value.int hend) ?_
              refine fm_if_eq (tgt := 168) hc d_Mo_step_161 rfl (fun g => absurd g (by decide)) (fun _ => ?_)
              refine fm_iconst (v := nI 3) hc d_Mo_step_164 rfl ?_
              refine fm_goto (tgt := 175) hc d_Mo_step_165 rfl ?_
              refine fm_iast (j := (24 * j) + q) (len := 96) (v := nI 3) hc 0 d_Mo_step_175 (by decide) (by omega) (by decide) rfl (by omega) (by decide) ?_
              refine fm_iinc (v := nI (dk + am_cnt (am_on mk) q + 1)) (lv' := [(3, .int (nI (dk + am_cnt (am_on mk) q + 1))), (7, .int (nI 1)), (6, .int (nI ((24 * j) + q))), (5, .int (nI q)), (4, .int (nI k)), (0, .ref 586), (1, .int (nI j)), (2, .int (nI c0))]) hc d_Mo_step_176 rfl (nI_1 (dk + am_cnt (am_on mk) q)) (by decide) rfl ?_
              refine fm_iinc (v := nI (q + 1)) (lv' := [(5, .int (nI (q + 1))), (3, .int (nI (dk + am_cnt (am_on mk) q + 1))), (7, .int (nI 1)), (6, .int (nI ((24 * j) + q))), (4, .int (nI k)), (0, .ref 586), (1, .int (nI j)), (2, .int (nI c0))]) hc d_Mo_step_179 rfl (nI_1 q) (by decide) rfl ?_
              refine fm_goto (tgt := 107) hc d_Mo_step_182 rfl ?_
              refine fm_dropl (lv' := [(5, .int (nI (q + 1))), (4, .int (nI k)), (3, .int (nI (dk + (am_cnt (am_on mk) q + 1)))), (0, .ref 586), (1, .int (nI j)), (2, .int (nI c0))]) (by simp [Nat.add_assoc]) ?_
              exact ihq _ ⟨h1, frR_p1 (Or.inl (by omega)) (frR_tr l2 f1), fun c hc8 => (p1_other (by decide)).trans ((t1 c).trans (l3 c hc8))⟩
            · rw [if_neg g5] at hwork
              refine fm_iload hc d_Mo_step_107 rfl ?_
              refine fm_bipush (v := nI 8) hc d_Mo_step_109 rfl ?_
              refine fm_icmp_ge (tgt := 185) hc d_Mo_step_111 rfl (fun g => absurd g (hnle (a := 8) (c := q) hq8 (by omega))) (fun _ => ?_)
              refine fm_aload_n hc d_Mo_step_114 rfl rfl ?_
              refine fm_getR (k := 19) (q := 604) hc K_Mo d_Mo_step_115 q_904 rfl (by decide) (by omega) (by decide) (by decide) (by decide) rfl (rp_turn hRq) ?_
              refine fm_iload hc d_Mo_step_118 rfl ?_
              refine fm_zald (j := q) (len := 8) hc 1 d_Mo_step_120 (by decide) (by omega) (by decide) rfl (by omega) (by decide) ?_
              refine fm_top (congrArg Value.int h604) ?_
              refine fm_if_eq (tgt := 179) hc d_Mo_step_121 rfl (fun g => absurd g (by decide)) (fun _ => ?_)
              refine fm_bipush (v := nI 24) hc d_Mo_step_124 rfl ?_
              refine fm_iload_n hc d_Mo_step_126 rfl rfl ?_
              refine fm_imul hc d_Mo_step_127 ?_
              refine fm_top (congrArg Value.int (pk_mul 24 j)) ?_
              refine fm_iload hc d_Mo_step_128 rfl ?_
              refine fm_iadd hc d_Mo_step_130 ?_
              refine fm_top (congrArg Value.int (nI_add (24 * j) q)) ?_
              refine fm_istore (lv' := [(6, .int (nI ((24 * j) + q))), (5, .int (nI q)), (4, .int (nI k)), (3, .int (nI (dk + am_cnt (am_on mk) q))), (0, .ref 586), (1, .int (nI j)), (2, .int (nI c0))]) hc d_Mo_step_131 (by decide) rfl ?_
              refine fm_aload_n hc d_Mo_step_133 rfl rfl ?_
              refine fm_iload hc d_Mo_step_134 rfl ?_
              refine fm_iload_n hc d_Mo_step_136 rfl rfl ?_
              refine fm_callV (av := [.int (nI ((24 * j) + q)), .int (nI j)]) (rest := []) (ob := 586) (ci := 11) (r0 := ("AgentNetModel", F_Mo, 51)) (y := y_Mo_work) (bytes := b_Mo_work) hc fm_T0_good (fm_EX_st b x) hex q_1082 q_13 q_1079 q_1081 qs_Mo_work pd_Mo_work (by decide) (by omega) (by decide) (by decide) rfl rfl (hwork) ⟨rfl, rfl, Nat.le_of_ble_eq_true rfl, Nat.le_of_ble_eq_true rfl⟩ ⟨Nat.le_of_ble_eq_true rfl, Nat.le_of_ble_eq_true rfl⟩ d_Mo_step_137 (Nat.le_of_ble_eq_true rfl) (fun r n2 M2 hp => ?_)
              obtain ⟨rfl, hq1, r1⟩ := hp
              replace hq1 := hq1.symm
              subst hq1
              revert r1
              generalize M2 = Ma
              intro r1
              have r1 : rW_m (24 * j + q) Mq (G1 q) (ag_step (sc ((G1 q).1 1)) tbl j (G1 q)) Ma := r1
              have f1 := hfr Ma r1
              have hRa : fm_RP Ma := frR_RP f1 hRq
              have h1 := hone Ma r1
              have hend := rW_end s2 r1
              have t1 : ∀ c, Ma.1 604 c = Mq.1 604 c := fun c => rW_t s2 r1
              rw [if_neg g5, if_neg g4] at h1
              rw [if_neg g4] at hend
              refine fm_cnt (z' := (0, 0)) rfl (fm_st (st' := [.int (nI 1)]) rfl ?_)
              refine fm_istore (lv' := [(7, .int (nI 1)), (6, .int (nI ((24 * j) + q))), (5, .int (nI q)), (4, .int (nI k)), (3, .int (nI (dk + am_cnt (am_on mk) q))), (0, .ref 586), (1, .int (nI j)), (2, .int (nI c0))]) hc d_Mo_step_140 (by decide) rfl ?_
              refine fm_aload_n hc d_Mo_step_142 rfl rfl ?_
              refine fm_getR (k := 12) (q := 597) hc K_Mo d_Mo_step_143 q_897 rfl (by decide) (by omega) (by decide) (by decide) (by decide) rfl (rp_slot hRa) ?_
              refine fm_iload hc d_Mo_step_146 rfl ?_
              refine fm_iload hc d_Mo_step_148 rfl ?_
              refine fm_if_ne (tgt := 157) hc d_Mo_step_150 rfl (fun _ => ?_) (fun g => absurd g (by decide))
              refine fm_aload_n hc d_Mo_step_157 rfl rfl ?_
              refine fm_getI (k := 50) hc K_Mo d_Mo_step_158 q_935 rfl (by decide) (by omega) (by decide) (by decide) (by decide) rfl ?_
              refine fm_top (congrArg Value.int hend) ?_
              refine fm_if_eq (tgt := 168) hc d_Mo_step_161 rfl (fun _ => ?_) (fun g => absurd (by decide) g)
              refine fm_aload_n hc d_Mo_step_168 rfl rfl ?_
              refine fm_getR (k := 12) (q := 597) hc K_Mo d_Mo_step_169 q_897 rfl (by decide) (by omega) (by decide) (by decide) (by decide) rfl (rp_slot hRa) ?_
              refine fm_iload hc d_Mo_step_172 rfl ?_
              refine fm_iald (j := (24 * j) + q) (len := 96) hc 0 d_Mo_step_174 (by decide) (by omega) (by decide) rfl (by omega) (by decide) ?_
              refine fm_iast (j := (24 * j) + q) (len := 96) (v := Ma.1 597 ((24 * j) + q)) hc 0 d_Mo_step_175 (by decide) (by omega) (by decide) rfl (by omega) (by decide) ?_
              refine fm_mem (M' := Ma) rfl (p1_id rfl) ?_
              refine fm_iinc (v := nI (dk + am_cnt (am_on mk) q + 1)) (lv' := [(3, .int (nI (dk + am_cnt (am_on mk) q + 1))), (7, .int (nI 1)), (6, .int (nI ((24 * j) + q))), (5, .int (nI q)), (4, .int (nI k)), (0, .ref 586), (1, .int (nI j)), (2, .int (nI c0))]) hc d_Mo_step_176 rfl (nI_1 (dk + am_cnt (am_on mk) q)) (by decide) rfl ?_
              refine fm_iinc (v := nI (q + 1)) (lv' := [(5, .int (nI (q + 1))), (3, .int (nI (dk + am_cnt (am_on mk) q + 1))), (7, .int (nI 1)), (6, .int (nI ((24 * j) + q))), (4, .int (nI k)), (0, .ref 586), (1, .int (nI j)), (2, .int (nI c0))]) hc d_Mo_step_179 rfl (nI_1 q) (by decide) rfl ?_
              refine fm_goto (tgt := 107) hc d_Mo_step_182 rfl ?_
              refine fm_dropl (lv' := [(5, .int (nI (q + 1))), (4, .int (nI k)), (3, .int (nI (dk + (am_cnt (am_on mk) q + 1)))), (0, .ref 586), (1, .int (nI j)), (2, .int (nI c0))]) (by simp [Nat.add_assoc]) ?_
              exact ihq _ ⟨h1, frR_tr l2 f1, fun c hc8 => (t1 c).trans (l3 c hc8)⟩
      · obtain ⟨l1, l2, l3⟩ := hI
        have hRq : fm_RP Mq := frR_RP l2 hR
        have aW := (amW_run (he := j) (tbl := tbl) hsb hsl i2 8 (Nat.le_refl 8)).1
        refine fm_iload hc d_Mo_step_107 rfl ?_
        refine fm_bipush (v := nI 8) hc d_Mo_step_109 rfl ?_
        refine fm_icmp_ge (tgt := 185) hc d_Mo_step_111 rfl (fun _ => ?_) (fun g => absurd (by decide) g)
        refine fm_iinc (v := nI (k + 1)) (lv' := [(4, .int (nI (k + 1))), (5, .int (nI 8)), (3, .int (nI (dk + am_cnt (am_on mk) 8))), (0, .ref 586), (1, .int (nI j)), (2, .int (nI c0))]) hc d_Mo_step_185 rfl (nI_1 k) (by decide) rfl ?_
        refine fm_goto (tgt := 30) hc d_Mo_step_188 rfl ?_
        refine fm_dropl (lv' := [(4, .int (nI (k + 1))), (3, .int (nI (dk + am_cnt (am_on mk) 8))), (0, .ref 586), (1, .int (nI j)), (2, .int (nI c0))]) (by simp) ?_
        exact ih _ ⟨l1, aW, l2⟩
  · obtain ⟨i1, i2, i3⟩ := hI
    refine fm_iload hc d_Mo_step_30 rfl ?_
    refine fm_iload_n hc d_Mo_step_32 rfl rfl ?_
    refine fm_icmp_ge (tgt := 191) hc d_Mo_step_33 rfl (fun _ => ?_) (fun g => absurd (nI_le (Nat.le_refl _) (by omega)) g)
    refine fm_iload_n hc d_Mo_step_191 rfl rfl ?_
    exact fm_iret hc hr d_Mo_step_192 (Nat.le_refl _) (Nat.le_refl _) ⟨rfl, rfl, i1, i2, i3⟩
