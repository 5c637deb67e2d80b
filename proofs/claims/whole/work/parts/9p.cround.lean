/-! THE CLASS: round -/
theorem MP_of {M M' : fm_M} {mm : Nat} (e : M'.2.2 = M.2.2) (h : fm_MP M mm) : fm_MP M' mm := by
  unfold fm_MP
  rw [e]
  exact h
theorem AP_of {M M' : fm_M} (e : M'.2.2 = M.2.2) (h : fm_AP M) : fm_AP M' := fun q hq => by rw [e]; exact h q hq
theorem NP_of {M M' : fm_M} (e : M'.2.2 = M.2.2) (h : fm_NP M) : fm_NP M' := by
  unfold fm_NP
  rw [e]
  exact h
theorem hsS_H {M M' : fm_M} {mm q : Nat} {sc : List Nat} (hlo : 91 ≤ mm) (hq : q < 4) (f : fr_H mm M M') (h : hs_S M q sc) : hs_S M' q sc := by
  unfold hs_S
  rw [f.1, (f.2 (82 + 2 * q) (by omega) (by omega)).1, (f.2 (83 + 2 * q) (by omega) (by omega)).1]
  exact h
theorem ly_tb {j : Nat} (hj : j < 4) : fm_lay (11 + j) = (100, 8) := by
  rcases ap_four hj with rfl | rfl | rfl | rfl <;> decide
theorem run_no {sc : Nat → List Nat} {tbl : Nat → Int32} {he k : Nat} {tn : Nat → Bool} {m : am_T} (h : tn k = false) : am_run sc tbl he tn (k + 1) m = am_run sc tbl he tn k m ∧ am_cnt tn (k + 1) = am_cnt tn k := by
  constructor
  · show (if tn k then _ else _) = _
    rw [h]
    rfl
  · show am_cnt tn k + (if tn k then 1 else 0) = _
    rw [h]
    rfl
theorem run_yes {sc : Nat → List Nat} {tbl : Nat → Int32} {he k : Nat} {tn : Nat → Bool} {m : am_T} (h : tn k = true) : am_run sc tbl he tn (k + 1) m = am_one sc tbl he k (am_run sc tbl he tn k m) ∧ am_cnt tn (k + 1) = am_cnt tn k + 1 := by
  constructor
  · show (if tn k then _ else _) = _
    rw [h]
    rfl
  · show am_cnt tn k + (if tn k then 1 else 0) = _
    rw [h]
    rfl
theorem c_round {l : Launch} {b : Nat} {x : Nat → Nat} {D : va_G} {dA : Nat → ClassId} {j mm n : Nat} {S0 : Nat → Nat} {K0 O0 T0 : Nat → Int32} {G0 : Nat → ag_T} {H0 : Nat → Int32} {V0 : Nat → Nat → Int32} {D0 : Nat → Nat} {sc : Nat → List Nat} {tbl : Nat → Int32} {M : fm_M} (hn : 586 ≤ n) (hA : fm_AP M) (hN : fm_NP M) (hj : j < 4) (hM : fm_isM mm) (hm : M.2.2 (90 + 124 * j) 3 = some mm) (hP : fm_MP M mm) (hsc : ∀ q, q < 4 → hs_S M q (sc q)) (htb : ∀ k, k < 8 → M.1 (11 + j) k = tbl k) (h : hc_M M mm (S0, K0, O0, T0, G0, H0, V0, D0)) (hI0 : am_I (S0, K0, O0, T0, G0, H0, V0, D0) (S0, K0, O0, T0, G0, H0, V0, D0) 0) : Met l y_An_round (Cond.code y_An_round b_An_round 8 (some .int) :: fm_T0) ({ frames := 4, cells := 0, slots := 0, locals := 140 }) (fm_Pc fm_lay fm_nf fm_fk fm_cl b x D dA (fm_tys dA) (fm_EX b x) false [.ref 8, .int (nI j)] n M) (fm_Qc fm_lay fm_nf fm_fk fm_cl b x D dA (fun r n' M' => r = some (.int (nI (am_cnt (am_on (S0, K0, O0, T0, G0, H0, V0, D0)) 8))) ∧ n' = n ∧ hc_M M' mm (am_run sc tbl j (am_on (S0, K0, O0, T0, G0, H0, V0, D0)) 8 (S0, K0, O0, T0, G0, H0, V0, D0)) ∧ am_I (S0, K0, O0, T0, G0, H0, V0, D0) (am_run sc tbl j (am_on (S0, K0, O0, T0, G0, H0, V0, D0)) 8 (S0, K0, O0, T0, G0, H0, V0, D0)) 8 ∧ fr_H mm M M')) 0 0 (fm_A b) := by
  refine fm_enter (by decide) (Nat.le_of_ble_eq_true rfl) ?_
  intro p e s m args below meth c9 hc hr hnm hex htg
  have hlo := isM_lo hM
  have hsb : ∀ q, q < 4 → ∀ i v : Nat, (sc q)[i]? = some v → v < 256 := fun q hq i v hv => ((hsc q hq).2.2.2 i v hv).2
  have hsl : ∀ q, q < 4 → (sc q).length ≤ 48 := fun q hq => (hsc q hq).2.1
  refine fm_aload_n hc d_An_round_0 rfl rfl ?_
  refine fm_getR (k := 2) (q := 15) hc K_An d_An_round_1 q_357 rfl (by decide) (by omega) (by decide) (by decide) (by decide) rfl (ap_2 hA) ?_
  refine fm_iload_n hc d_An_round_4 rfl rfl ?_
  refine fm_aald (q := 90 + 124 * j) (j := j) (len := 4) hc 5 d_An_round_5 (by decide) (by omega) (by decide) (by decide) rfl (by omega) (by decide) (ap_site hA hj) ?_
  refine fm_getR (k := 3) (q := mm) hc K_Si d_An_round_6 q_338 rfl (by omega) (by omega) (ly_Si hj) (by decide) (by decide) rfl hm ?_
  refine fm_astore_n (lv' := [(2, .ref mm), (0, .ref 8), (1, .int (nI j))]) hc d_An_round_9 rfl (by decide) rfl ?_
  refine fm_aload_n hc d_An_round_10 rfl rfl ?_
  refine fm_callV (av := []) (rest := []) (ob := mm) (ci := 6) (r0 := ("AgentNet$Memory", F_Me, 6)) (y := y_Me_running) (bytes := b_Me_running) hc fm_T0_good (fm_EX_st b x) hex q_694 q_11 q_691 q_692 q_693 pd_Me_running (by omega) (by omega) (ly_M0 hM) (by decide) rfl rfl (c_running hn hM hP h.1 hI0.1) ⟨rfl, rfl, Nat.le_of_ble_eq_true rfl, Nat.le_of_ble_eq_true rfl⟩ ⟨Nat.le_of_ble_eq_true rfl, Nat.le_of_ble_eq_true rfl⟩ d_An_round_11 (Nat.le_of_ble_eq_true rfl) (fun r n2 M2 hp => ?_)
  obtain ⟨rfl, hq1, hq2⟩ := hp
  replace hq1 := hq1.symm
  replace hq2 := hq2.symm
  subst hq1 hq2
  refine fm_cnt (z' := (0, 0)) rfl (fm_st (st' := [.int (rn_w S0 8)]) rfl ?_)
  refine fm_istore_n (lv' := [(3, .int (rn_w S0 8)), (2, .ref mm), (0, .ref 8), (1, .int (nI j))]) hc d_An_round_14 rfl (by decide) rfl ?_
  refine fm_iconst (v := nI 0) hc d_An_round_15 rfl ?_
  refine fm_istore (lv' := [(4, .int (nI 0)), (3, .int (rn_w S0 8)), (2, .ref mm), (0, .ref 8), (1, .int (nI j))]) hc d_An_round_16 (by decide) rfl ?_
  refine fm_iconst (v := nI 0) hc d_An_round_18 rfl ?_
  refine fm_istore (lv' := [(5, .int (nI 0)), (4, .int (nI 0)), (3, .int (rn_w S0 8)), (2, .ref mm), (0, .ref 8), (1, .int (nI j))]) hc d_An_round_19 (by decide) rfl ?_
  refine fm_dropl (lv' := [(5, .int (nI 0)), (4, .int (nI (am_cnt (am_on (S0, K0, O0, T0, G0, H0, V0, D0)) 0))), (3, .int (rn_w S0 8)), (2, .ref mm), (1, .int (nI j)), (0, .ref 8)]) (by simp [am_cnt]) ?_
  refine fm_loopI (N := 8) (lv := fun k => [(5, .int (nI k)), (4, .int (nI (am_cnt (am_on (S0, K0, O0, T0, G0, H0, V0, D0)) k))), (3, .int (rn_w S0 8)), (2, .ref mm), (1, .int (nI j)), (0, .ref 8)]) (I := fun k M' => hc_M M' mm (am_run sc tbl j (am_on (S0, K0, O0, T0, G0, H0, V0, D0)) k (S0, K0, O0, T0, G0, H0, V0, D0)) ∧ am_I (S0, K0, O0, T0, G0, H0, V0, D0) (am_run sc tbl j (am_on (S0, K0, O0, T0, G0, H0, V0, D0)) k (S0, K0, O0, T0, G0, H0, V0, D0)) k ∧ fr_H mm M M') (fun k Mk hk hI ih => ?_) (fun Mk hI => ?_) ⟨h, hI0, frH_rf mm M⟩
  · obtain ⟨i1, i2, i3⟩ := hI
    have hAk := AP_of i3.1 hA
    have hPk := MP_of i3.1 hP
    have hNk := NP_of i3.1 hN
    have hmk : Mk.2.2 (90 + 124 * j) 3 = some mm := by rw [i3.1]; exact hm
    have NI : (am_on (S0, K0, O0, T0, G0, H0, V0, D0)) k = false → hc_M Mk mm (am_run sc tbl j (am_on (S0, K0, O0, T0, G0, H0, V0, D0)) (k + 1) (S0, K0, O0, T0, G0, H0, V0, D0)) ∧ am_I (S0, K0, O0, T0, G0, H0, V0, D0) (am_run sc tbl j (am_on (S0, K0, O0, T0, G0, H0, V0, D0)) (k + 1) (S0, K0, O0, T0, G0, H0, V0, D0)) (k + 1) ∧ fr_H mm M Mk := fun q => by
      rw [(run_no q).1]
      exact ⟨i1, amI_next i2, i3⟩
    have NC : (am_on (S0, K0, O0, T0, G0, H0, V0, D0)) k = false → (am_cnt (am_on (S0, K0, O0, T0, G0, H0, V0, D0)) (k + 1)) = (am_cnt (am_on (S0, K0, O0, T0, G0, H0, V0, D0)) k) := fun q => (run_no (sc := sc) (tbl := tbl) (he := j) (m := (S0, K0, O0, T0, G0, H0, V0, D0)) q).2
    have on_eq : (am_on (S0, K0, O0, T0, G0, H0, V0, D0)) k = (decide (S0 k = 1) && decide (1 ≤ (G0 k).1 3) && decide ((G0 k).1 6 = 0)) := rfl
    by_cases g1 : S0 k = 1
    · generalize hrun : (am_run sc tbl j (am_on (S0, K0, O0, T0, G0, H0, V0, D0)) k (S0, K0, O0, T0, G0, H0, V0, D0)) = mk at i1 i2
      obtain ⟨S1, K1, O1, T1, G1, H1, V1, D1⟩ := mk
      obtain ⟨e1, e2⟩ := i2.2.2.1 k (Nat.le_refl k) hk g1
      have wk := i2.2.1 k hk (by rw [e1]; decide)
      have hp4 : (G1 k).1 1 < 4 := wk.2.2.2.1
      have w6 := wk.2.2.2.2.2.1
      have w6 : (G1 k).1 4 + (G1 k).1 3 ≤ 200 := w6
      have w20 : (G1 k).1 6 ≤ 20 := wk.2.2.2.2.2.2.2.1
      have hAg : hc_A Mk (mm + (9 + 4 * k)) (G1 k) := i1.2.2.2.2.2.2 k hk (by rw [e1]; decide)
      have hfu : Mk.1 (mm + (9 + 4 * k)) 3 = nI ((G1 k).1 3) := hAg.1 3 (by decide)
      have hwt : Mk.1 (mm + (9 + 4 * k)) 6 = nI ((G1 k).1 6) := hAg.1 6 (by decide)
      by_cases g2 : (G1 k).1 3 = 0
      · refine fm_iload hc d_An_round_21 rfl ?_
        refine fm_bipush (v := nI 8) hc d_An_round_23 rfl ?_
        refine fm_icmp_ge (tgt := 117) hc d_An_round_25 rfl (fun g => absurd g (hnle (a := 8) (c := k) hk (by omega))) (fun _ => ?_)
        refine fm_aload_n hc d_An_round_28 rfl rfl ?_
        refine fm_getR (k := 4) (q := mm + 5) hc K_Me d_An_round_29 q_315 rfl (by omega) (by omega) (ly_M0 hM) (by decide) (by decide) rfl hPk.2.2.2.2.1 ?_
        refine fm_iload hc d_An_round_32 rfl ?_
        refine fm_aald (q := mm + (9 + 4 * k)) (j := k) (len := 8) hc 7 d_An_round_34 (by omega) (by omega) (ly_M hM (k := 5) (by omega)) (by decide) rfl (by omega) (by decide) (hPk.2.2.2.2.2.2.2.2 k hk).1 ?_
        refine fm_astore (lv' := [(6, .ref (mm + (9 + 4 * k))), (5, .int (nI k)), (4, .int (nI (am_cnt (am_on (S0, K0, O0, T0, G0, H0, V0, D0)) k))), (3, .int (rn_w S0 8)), (2, .ref mm), (1, .int (nI j)), (0, .ref 8)]) hc d_An_round_35 (by decide) rfl ?_
        refine fm_iload_n hc d_An_round_37 rfl rfl ?_
        refine fm_iload hc d_An_round_38 rfl ?_
        refine fm_ishr hc d_An_round_40 ?_
        refine fm_iconst (v := nI 1) hc d_An_round_41 rfl ?_
        refine fm_iand hc d_An_round_42 ?_
        refine fm_if_eq (tgt := 111) hc d_An_round_43 rfl (fun g => absurd g (fun q => (rn_bit S0 hk).mp q g1)) (fun _ => ?_)
        refine fm_aload hc d_An_round_46 rfl ?_
        refine fm_getI (k := 3) hc K_Tr d_An_round_48 q_187 rfl (by omega) (by omega) (ly_Mt hM hk) (by decide) (by decide) rfl ?_
        refine fm_top (congrArg Value.int hfu) ?_
        refine fm_if_eq (tgt := 111) hc d_An_round_51 rfl (fun _ => ?_) (fun g => absurd (congrArg nI g2) g)
        refine fm_iinc (v := nI (k + 1)) (lv' := [(5, .int (nI (k + 1))), (6, .ref (mm + (9 + 4 * k))), (4, .int (nI (am_cnt (am_on (S0, K0, O0, T0, G0, H0, V0, D0)) k))), (3, .int (rn_w S0 8)), (2, .ref mm), (1, .int (nI j)), (0, .ref 8)]) hc d_An_round_111 rfl (nI_1 k) (by decide) rfl ?_
        refine fm_goto (tgt := 21) hc d_An_round_114 rfl ?_
        refine fm_dropl (lv' := [(5, .int (nI (k + 1))), (4, .int (nI (am_cnt (am_on (S0, K0, O0, T0, G0, H0, V0, D0)) k))), (3, .int (rn_w S0 8)), (2, .ref mm), (1, .int (nI j)), (0, .ref 8)]) (by simp) ?_
        have q : (am_on (S0, K0, O0, T0, G0, H0, V0, D0)) k = false := by rw [on_eq, ← e2, g2, decide_eq_false (show ¬ 1 ≤ 0 by decide), Bool.and_false]; rfl
        rw [← NC q]
        exact ih _ (NI q)
      · by_cases g3 : (G1 k).1 6 = 0
        · have on1 : (am_on (S0, K0, O0, T0, G0, H0, V0, D0)) k = true := by rw [on_eq, ← e2, g3, decide_eq_true g1, decide_eq_true (show 1 ≤ (G1 k).1 3 by omega)]; rfl
          have hcl : (ag_step (sc ((G1 k).1 1)) tbl j (G1 k)).1 = 3 → K1 (k + 4) = -1 ∧ O1 (k + 4) = -1 := fun q => by
            obtain ⟨k4, c7, -⟩ := kid_wf (he := j) (tbl := tbl) wk (by omega) (hsb _ hp4) (hsl _ hp4) q
            exact (i2.2.2.2 k (Nat.le_refl k) k4 g1 (by rw [← e2]; exact c7)).2
          refine fm_iload hc d_An_round_21 rfl ?_
          refine fm_bipush (v := nI 8) hc d_An_round_23 rfl ?_
          refine fm_icmp_ge (tgt := 117) hc d_An_round_25 rfl (fun g => absurd g (hnle (a := 8) (c := k) hk (by omega))) (fun _ => ?_)
          refine fm_aload_n hc d_An_round_28 rfl rfl ?_
          refine fm_getR (k := 4) (q := mm + 5) hc K_Me d_An_round_29 q_315 rfl (by omega) (by omega) (ly_M0 hM) (by decide) (by decide) rfl hPk.2.2.2.2.1 ?_
          refine fm_iload hc d_An_round_32 rfl ?_
          refine fm_aald (q := mm + (9 + 4 * k)) (j := k) (len := 8) hc 7 d_An_round_34 (by omega) (by omega) (ly_M hM (k := 5) (by omega)) (by decide) rfl (by omega) (by decide) (hPk.2.2.2.2.2.2.2.2 k hk).1 ?_
          refine fm_astore (lv' := [(6, .ref (mm + (9 + 4 * k))), (5, .int (nI k)), (4, .int (nI (am_cnt (am_on (S0, K0, O0, T0, G0, H0, V0, D0)) k))), (3, .int (rn_w S0 8)), (2, .ref mm), (1, .int (nI j)), (0, .ref 8)]) hc d_An_round_35 (by decide) rfl ?_
          refine fm_iload_n hc d_An_round_37 rfl rfl ?_
          refine fm_iload hc d_An_round_38 rfl ?_
          refine fm_ishr hc d_An_round_40 ?_
          refine fm_iconst (v := nI 1) hc d_An_round_41 rfl ?_
          refine fm_iand hc d_An_round_42 ?_
          refine fm_if_eq (tgt := 111) hc d_An_round_43 rfl (fun g => absurd g (fun q => (rn_bit S0 hk).mp q g1)) (fun _ => ?_)
          refine fm_aload hc d_An_round_46 rfl ?_
          refine fm_getI (k := 3) hc K_Tr d_An_round_48 q_187 rfl (by omega) (by omega) (ly_Mt hM hk) (by decide) (by decide) rfl ?_
          refine fm_top (congrArg Value.int hfu) ?_
          refine fm_if_eq (tgt := 111) hc d_An_round_51 rfl (fun g => absurd g (fun q => g2 (nI_inj (a := (G1 k).1 3) (c := 0) (by omega) (by decide) q))) (fun _ => ?_)
          refine fm_aload hc d_An_round_54 rfl ?_
          refine fm_getI (k := 6) hc K_Tr d_An_round_56 q_203 rfl (by omega) (by omega) (ly_Mt hM hk) (by decide) (by decide) rfl ?_
          refine fm_top (congrArg Value.int hwt) ?_
          refine fm_if_le (tgt := 65) hc d_An_round_59 rfl (fun _ => ?_) (fun g => absurd (by rw [g3]; decide) g)
          refine fm_aload_n hc d_An_round_65 rfl rfl ?_
          refine fm_getR (k := 4) (q := 60) hc K_An d_An_round_66 q_359 rfl (by decide) (by omega) (by decide) (by decide) (by decide) rfl (ap_4 hAk) ?_
          refine fm_aload hc d_An_round_69 rfl ?_
          refine fm_aload_n hc d_An_round_71 rfl rfl ?_
          refine fm_getR (k := 0) (q := 9) hc K_An d_An_round_72 q_355 rfl (by decide) (by omega) (by decide) (by decide) (by decide) rfl (ap_0 hAk) ?_
          refine fm_aload hc d_An_round_75 rfl ?_
          refine fm_getI (k := 1) hc K_Tr d_An_round_77 q_179 rfl (by omega) (by omega) (ly_Mt hM hk) (by decide) (by decide) rfl ?_
          refine fm_top (congrArg Value.int (hAg.1 1 (by decide))) ?_
          refine fm_aald (q := 82 + 2 * ((G1 k).1 1)) (j := (G1 k).1 1) (len := 4) hc 4 d_An_round_80 (by decide) (by omega) (by decide) (by decide) rfl (by omega) (by decide) (ap_scr hAk hp4) ?_
          refine fm_aload_n hc d_An_round_81 rfl rfl ?_
          refine fm_getR (k := 1) (q := 10) hc K_An d_An_round_82 q_356 rfl (by decide) (by omega) (by decide) (by decide) (by decide) rfl (ap_1 hAk) ?_
          refine fm_iload_n hc d_An_round_85 rfl rfl ?_
          refine fm_aaldA (q := 11 + j) (j := j) (len := 4) hc 8 d_An_round_86 (by decide) (by omega) (by decide) (by decide) rfl (by omega) (by decide) (ap_tab hAk hj) ?_
          refine fm_iload_n hc d_An_round_87 rfl rfl ?_
          refine fm_callV (av := [.ref (mm + (9 + 4 * k)), .ref (82 + 2 * ((G1 k).1 1)), .ref (11 + j), .int (nI j)]) (rest := []) (ob := 60) (ci := 10) (r0 := ("AgentNet$Processor", F_Pr, 6)) (y := y_Pr_perform) (bytes := b_Pr_perform) hc fm_T0_good (fm_EX_st b x) hex q_594 q_4 q_695 q_592 q_593 pd_Pr_perform (by decide) (by omega) (by decide) (by decide) rfl rfl (c_perform (p0 := (G1 k).1 1) (tb := 11 + j) (he := j) (A := G1 k) (sc := sc ((G1 k).1 1)) (tbl := tbl) hn (isM_trL hM hk hn) (by omega) (isM_trP hPk hk) hNk hAg wk.1 hp4 (hsS_H hlo.1 hp4 i3 (hsc _ hp4)) ⟨by omega, by omega, ly_tb hj, fun c hc8 => by rw [(i3.2 (11 + j) (by omega) (by omega)).1]; exact htb c hc8⟩ (by rw [wk.2.2.1]; omega) (by have := wk.2.2.2.2.1; omega) (by omega) (by omega) (by have := wk.2.2.2.2.2.2.1; omega) wk.2.2.2.2.2.2.2.2) ⟨rfl, rfl, Nat.le_of_ble_eq_true rfl, Nat.le_of_ble_eq_true rfl⟩ ⟨Nat.le_of_ble_eq_true rfl, Nat.le_of_ble_eq_true rfl⟩ d_An_round_88 (Nat.le_of_ble_eq_true rfl) (fun r n2 M2 hp => ?_)
          obtain ⟨rfl, hq1, p1, p2, p3⟩ := hp
          replace hq1 := hq1.symm
          subst hq1
          revert p1 p2 p3
          generalize M2 = Ma
          intro p1 p2 p3
          have hAa := AP_of p2.1 hAk
          have hPa := MP_of p2.1 hPk
          have hma : Ma.2.2 (90 + 124 * j) 3 = some mm := by rw [p2.1]; exact hmk
          refine fm_cnt (z' := (0, 0)) rfl (fm_st (st' := [.int (nI ((ag_step (sc ((G1 k).1 1)) tbl j (G1 k)).1))]) rfl ?_)
          refine fm_istore (lv' := [(7, .int (nI ((ag_step (sc ((G1 k).1 1)) tbl j (G1 k)).1))), (6, .ref (mm + (9 + 4 * k))), (5, .int (nI k)), (4, .int (nI (am_cnt (am_on (S0, K0, O0, T0, G0, H0, V0, D0)) k))), (3, .int (rn_w S0 8)), (2, .ref mm), (1, .int (nI j)), (0, .ref 8)]) hc d_An_round_91 (by decide) rfl ?_
          refine fm_aload_n hc d_An_round_93 rfl rfl ?_
          refine fm_iload hc d_An_round_94 rfl ?_
          refine fm_iload hc d_An_round_96 rfl ?_
          refine fm_aload_n hc d_An_round_98 rfl rfl ?_
          refine fm_getR (k := 4) (q := 60) hc K_An d_An_round_99 q_359 rfl (by decide) (by omega) (by decide) (by decide) (by decide) rfl (ap_4 hAa) ?_
          refine fm_getI (k := 5) hc K_Pr d_An_round_102 q_130 rfl (by decide) (by omega) (by decide) (by decide) (by decide) rfl ?_
          refine fm_callV (av := [.int (nI k), .int (nI ((ag_step (sc ((G1 k).1 1)) tbl j (G1 k)).1)), .int (Ma.1 60 5)]) (rest := []) (ob := mm) (ci := 6) (r0 := ("AgentNet$Memory", F_Me, 6)) (y := y_Me_grant) (bytes := b_Me_grant) hc fm_T0_good (fm_EX_st b x) hex q_699 q_11 q_696 q_697 q_698 pd_Me_grant (by omega) (by omega) (ly_M0 hM) (by decide) rfl rfl (c_grant (A := G1 k) (sc := sc ((G1 k).1 1)) (tbl := tbl) (he := j) (G := G1) hn hM hPa hk (hcM_perf hlo.1 i1 p2 p1) (by rw [e1]; decide) wk (by omega) (hsb _ hp4) (hsl _ hp4) p3 hcl) ⟨rfl, rfl, Nat.le_of_ble_eq_true rfl, Nat.le_of_ble_eq_true rfl⟩ ⟨Nat.le_of_ble_eq_true rfl, Nat.le_of_ble_eq_true rfl⟩ d_An_round_105 (Nat.le_of_ble_eq_true rfl) (fun r n2 M2 hp => ?_)
          obtain ⟨rfl, hq1, r1, r2⟩ := hp
          replace hq1 := hq1.symm
          subst hq1
          revert r1 r2
          generalize M2 = Mb
          intro r1 r2
          refine fm_cnt (z' := (0, 0)) rfl (fm_st (st' := []) rfl ?_)
          refine fm_iinc (v := nI (am_cnt (am_on (S0, K0, O0, T0, G0, H0, V0, D0)) k + 1)) (lv' := [(4, .int (nI (am_cnt (am_on (S0, K0, O0, T0, G0, H0, V0, D0)) k + 1))), (7, .int (nI ((ag_step (sc ((G1 k).1 1)) tbl j (G1 k)).1))), (6, .ref (mm + (9 + 4 * k))), (5, .int (nI k)), (3, .int (rn_w S0 8)), (2, .ref mm), (1, .int (nI j)), (0, .ref 8)]) hc d_An_round_108 rfl (nI_1 (am_cnt (am_on (S0, K0, O0, T0, G0, H0, V0, D0)) k)) (by decide) rfl ?_
          refine fm_iinc (v := nI (k + 1)) (lv' := [(5, .int (nI (k + 1))), (4, .int (nI (am_cnt (am_on (S0, K0, O0, T0, G0, H0, V0, D0)) k + 1))), (7, .int (nI ((ag_step (sc ((G1 k).1 1)) tbl j (G1 k)).1))), (6, .ref (mm + (9 + 4 * k))), (3, .int (rn_w S0 8)), (2, .ref mm), (1, .int (nI j)), (0, .ref 8)]) hc d_An_round_111 rfl (nI_1 k) (by decide) rfl ?_
          refine fm_goto (tgt := 21) hc d_An_round_114 rfl ?_
          refine fm_dropl (lv' := [(5, .int (nI (k + 1))), (4, .int (nI ((am_cnt (am_on (S0, K0, O0, T0, G0, H0, V0, D0)) k) + 1))), (3, .int (rn_w S0 8)), (2, .ref mm), (1, .int (nI j)), (0, .ref 8)]) (by simp) ?_
          rw [← (run_yes (sc := sc) (tbl := tbl) (he := j) (m := (S0, K0, O0, T0, G0, H0, V0, D0)) on1).2]
          refine ih _ ⟨?_, ?_, frH_tr i3 (frH_tr (frH_P (k := 9 + 4 * k) (by omega) p2) r2)⟩
          · rw [(run_yes on1).1, hrun]
            exact r1
          · rw [(run_yes on1).1, hrun]
            exact amI_one hk hsb hsl on1 i2
        · refine fm_iload hc d_An_round_21 rfl ?_
          refine fm_bipush (v := nI 8) hc d_An_round_23 rfl ?_
          refine fm_icmp_ge (tgt := 117) hc d_An_round_25 rfl (fun g => absurd g (hnle (a := 8) (c := k) hk (by omega))) (fun _ => ?_)
          refine fm_aload_n hc d_An_round_28 rfl rfl ?_
          refine fm_getR (k := 4) (q := mm + 5) hc K_Me d_An_round_29 q_315 rfl (by omega) (by omega) (ly_M0 hM) (by decide) (by decide) rfl hPk.2.2.2.2.1 ?_
          refine fm_iload hc d_An_round_32 rfl ?_
          refine fm_aald (q := mm + (9 + 4 * k)) (j := k) (len := 8) hc 7 d_An_round_34 (by omega) (by omega) (ly_M hM (k := 5) (by omega)) (by decide) rfl (by omega) (by decide) (hPk.2.2.2.2.2.2.2.2 k hk).1 ?_
          refine fm_astore (lv' := [(6, .ref (mm + (9 + 4 * k))), (5, .int (nI k)), (4, .int (nI (am_cnt (am_on (S0, K0, O0, T0, G0, H0, V0, D0)) k))), (3, .int (rn_w S0 8)), (2, .ref mm), (1, .int (nI j)), (0, .ref 8)]) hc d_An_round_35 (by decide) rfl ?_
          refine fm_iload_n hc d_An_round_37 rfl rfl ?_
          refine fm_iload hc d_An_round_38 rfl ?_
          refine fm_ishr hc d_An_round_40 ?_
          refine fm_iconst (v := nI 1) hc d_An_round_41 rfl ?_
          refine fm_iand hc d_An_round_42 ?_
          refine fm_if_eq (tgt := 111) hc d_An_round_43 rfl (fun g => absurd g (fun q => (rn_bit S0 hk).mp q g1)) (fun _ => ?_)
          refine fm_aload hc d_An_round_46 rfl ?_
          refine fm_getI (k := 3) hc K_Tr d_An_round_48 q_187 rfl (by omega) (by omega) (ly_Mt hM hk) (by decide) (by decide) rfl ?_
          refine fm_top (congrArg Value.int hfu) ?_
          refine fm_if_eq (tgt := 111) hc d_An_round_51 rfl (fun g => absurd g (fun q => g2 (nI_inj (a := (G1 k).1 3) (c := 0) (by omega) (by decide) q))) (fun _ => ?_)
          refine fm_aload hc d_An_round_54 rfl ?_
          refine fm_getI (k := 6) hc K_Tr d_An_round_56 q_203 rfl (by omega) (by omega) (ly_Mt hM hk) (by decide) (by decide) rfl ?_
          refine fm_top (congrArg Value.int hwt) ?_
          refine fm_if_le (tgt := 65) hc d_An_round_59 rfl (fun g => absurd g (fun q => g3 (by have := (nI_leI (a := (G1 k).1 6) (b := 0) (by omega) (by decide)).mp q; omega))) (fun _ => ?_)
          refine fm_goto (tgt := 111) hc d_An_round_62 rfl ?_
          refine fm_iinc (v := nI (k + 1)) (lv' := [(5, .int (nI (k + 1))), (6, .ref (mm + (9 + 4 * k))), (4, .int (nI (am_cnt (am_on (S0, K0, O0, T0, G0, H0, V0, D0)) k))), (3, .int (rn_w S0 8)), (2, .ref mm), (1, .int (nI j)), (0, .ref 8)]) hc d_An_round_111 rfl (nI_1 k) (by decide) rfl ?_
          refine fm_goto (tgt := 21) hc d_An_round_114 rfl ?_
          refine fm_dropl (lv' := [(5, .int (nI (k + 1))), (4, .int (nI (am_cnt (am_on (S0, K0, O0, T0, G0, H0, V0, D0)) k))), (3, .int (rn_w S0 8)), (2, .ref mm), (1, .int (nI j)), (0, .ref 8)]) (by simp) ?_
          have q : (am_on (S0, K0, O0, T0, G0, H0, V0, D0)) k = false := by rw [on_eq, ← e2, decide_eq_false g3, Bool.and_false]
          rw [← NC q]
          exact ih _ (NI q)
    · refine fm_iload hc d_An_round_21 rfl ?_
      refine fm_bipush (v := nI 8) hc d_An_round_23 rfl ?_
      refine fm_icmp_ge (tgt := 117) hc d_An_round_25 rfl (fun g => absurd g (hnle (a := 8) (c := k) hk (by omega))) (fun _ => ?_)
      refine fm_aload_n hc d_An_round_28 rfl rfl ?_
      refine fm_getR (k := 4) (q := mm + 5) hc K_Me d_An_round_29 q_315 rfl (by omega) (by omega) (ly_M0 hM) (by decide) (by decide) rfl hPk.2.2.2.2.1 ?_
      refine fm_iload hc d_An_round_32 rfl ?_
      refine fm_aald (q := mm + (9 + 4 * k)) (j := k) (len := 8) hc 7 d_An_round_34 (by omega) (by omega) (ly_M hM (k := 5) (by omega)) (by decide) rfl (by omega) (by decide) (hPk.2.2.2.2.2.2.2.2 k hk).1 ?_
      refine fm_astore (lv' := [(6, .ref (mm + (9 + 4 * k))), (5, .int (nI k)), (4, .int (nI (am_cnt (am_on (S0, K0, O0, T0, G0, H0, V0, D0)) k))), (3, .int (rn_w S0 8)), (2, .ref mm), (1, .int (nI j)), (0, .ref 8)]) hc d_An_round_35 (by decide) rfl ?_
      refine fm_iload_n hc d_An_round_37 rfl rfl ?_
      refine fm_iload hc d_An_round_38 rfl ?_
      refine fm_ishr hc d_An_round_40 ?_
      refine fm_iconst (v := nI 1) hc d_An_round_41 rfl ?_
      refine fm_iand hc d_An_round_42 ?_
      refine fm_if_eq (tgt := 111) hc d_An_round_43 rfl (fun _ => ?_) (fun g => absurd ((rn_bit S0 hk).mpr g1) g)
      refine fm_iinc (v := nI (k + 1)) (lv' := [(5, .int (nI (k + 1))), (6, .ref (mm + (9 + 4 * k))), (4, .int (nI (am_cnt (am_on (S0, K0, O0, T0, G0, H0, V0, D0)) k))), (3, .int (rn_w S0 8)), (2, .ref mm), (1, .int (nI j)), (0, .ref 8)]) hc d_An_round_111 rfl (nI_1 k) (by decide) rfl ?_
      refine fm_goto (tgt := 21) hc d_An_round_114 rfl ?_
      refine fm_dropl (lv' := [(5, .int (nI (k + 1))), (4, .int (nI (am_cnt (am_on (S0, K0, O0, T0, G0, H0, V0, D0)) k))), (3, .int (rn_w S0 8)), (2, .ref mm), (1, .int (nI j)), (0, .ref 8)]) (by simp) ?_
      have q : (am_on (S0, K0, O0, T0, G0, H0, V0, D0)) k = false := by rw [on_eq, decide_eq_false g1]; rfl
      rw [← NC q]
      exact ih _ (NI q)
  · obtain ⟨i1, i2, i3⟩ := hI
    refine fm_iload hc d_An_round_21 rfl ?_
    refine fm_bipush (v := nI 8) hc d_An_round_23 rfl ?_
    refine fm_icmp_ge (tgt := 117) hc d_An_round_25 rfl (fun _ => ?_) (fun g => absurd (by decide) g)
    refine fm_iload hc d_An_round_117 rfl ?_
    exact fm_iret hc hr d_An_round_119 (Nat.le_refl _) (Nat.le_refl _) ⟨rfl, rfl, i1, i2, i3⟩
