/-! THE CLASS: sendArrivals, tick entire -/
/-- what agent a sends at a tick: m the memory, s the sealed copy -/
def ar_one (j : Nat) (m s : am_T) (a : Nat) (ms : List mg_T) : List mg_T := if m.1 a = 2 ∧ s.1 a = 2 ∧ (s.2.2.2.2.1 a).1 4 = (m.2.2.2.2.1 a).1 4 then wi_send ms (0, (m.2.2.2.2.1 a).1 0, nI ((m.2.2.2.2.1 a).1 4), nI j, m.2.2.2.1 a, im_B (m.2.2.2.2.1 a)) else ms
def ar_all (j : Nat) (m s : am_T) (ms : List mg_T) : Nat → List mg_T
  | 0 => ms
  | k + 1 => ar_one j m s k (ar_all j m s ms k)
theorem hcM_of {mm : Nat} {M M' : fm_M} {m : am_T} (e1 : ∀ q, mm ≤ q → q < mm + 41 → M'.1 q = M.1 q) (e2 : ∀ q, mm ≤ q → q < mm + 41 → M'.2.1 q = M.2.1 q) (h : hc_M M mm m) : hc_M M' mm m := by
  obtain ⟨S, K, O, T, G, H, V, D⟩ := m
  obtain ⟨h1, h2, h3, h4, h5, h6, h7⟩ := h
  refine ⟨fun a ha => by rw [e1 _ (by omega) (by omega)]; exact h1 a ha, fun a ha => by rw [e1 _ (by omega) (by omega)]; exact h2 a ha, fun a ha => by rw [e1 _ (by omega) (by omega)]; exact h3 a ha, fun a ha => by rw [e1 _ (by omega) (by omega)]; exact h4 a ha, fun a ha => by rw [e1 _ (by omega) (by omega)]; exact h5 a ha, fun a i ha hi => by rw [e1 _ (by omega) (by omega)]; exact h6 a i ha hi, fun a ha hs => ?_⟩
  have h := h7 a ha hs
  unfold hc_A at *
  rw [e1 _ (by omega) (by omega), e2 _ (by omega) (by omega), e2 _ (by omega) (by omega), e2 _ (by omega) (by omega)]
  exact h
theorem hcM_fw {mm : Nat} {M M' : fm_M} {m : am_T} (hlo : 91 ≤ mm) (f : fw_M M M') (h : hc_M M mm m) : hc_M M' mm m := hcM_of (fun q a _ => f.2 q (by omega)) (fun q _ _ => by rw [f.1]) h
theorem isM_far {mm mq : Nat} (h : fm_isM mm) (g : fm_isM mq) (hne : mm ≠ mq) : mm + 41 ≤ mq ∨ mq + 41 ≤ mm := by
  obtain ⟨j, v, hj, hv, e⟩ := h
  obtain ⟨j', v', hj', hv', e'⟩ := g
  rcases Nat.lt_trichotomy j j' with g1 | g1 | g1
  · omega
  · subst g1
    rcases Nat.lt_trichotomy v v' with g2 | g2 | g2
    · omega
    · subst g2
      omega
    · omega
  · omega
theorem isM_site {mm j : Nat} (h : fm_isM mm) : 90 + 124 * j < mm ∨ mm + 41 ≤ 90 + 124 * j := by
  obtain ⟨j', v, hj, hv, e⟩ := h
  rcases Nat.lt_trichotomy j j' with g1 | g1 | g1
  · omega
  · omega
  · omega
theorem c_sendArrs {l : Launch} {b : Nat} {x : Nat → Nat} {D : va_G} {dA : Nat → ClassId} {j mm mq n : Nat} {w : Nat → Nat} {m0 s0 : am_T} {ms : List mg_T} {M : fm_M} (hn : 586 ≤ n) (hj : j < 4) (hM : fm_isM mm) (hQ : fm_isM mq) (hm : M.2.2 (90 + 124 * j) 3 = some mm) (hs : M.2.2 (90 + 124 * j) 4 = some mq) (h0 : M.1 (90 + 124 * j) 0 = nI j) (hP : fm_MP M mm) (hPq : fm_MP M mq) (hp : wi_P M w) (h : hc_M M mm m0) (g : hc_M M mq s0) (hw : hc_W M w ms) (hma : am_wfs m0) (hsa : am_wfs s0) : Met l y_Si_sendArrivals (Cond.code y_Si_sendArrivals b_Si_sendArrivals 4 none :: fm_T0) ({ frames := 4, cells := 0, slots := 0, locals := 130 }) (fm_Pc fm_lay fm_nf fm_fk fm_cl b x D dA (fm_tys dA) (fm_EX b x) false [.ref (90 + 124 * j), .ref 16] n M) (fm_Qc fm_lay fm_nf fm_fk fm_cl b x D dA (fun r n' M' => r = none ∧ n' = n ∧ hc_W M' w (ar_all j m0 s0 ms 8) ∧ fw_M M M')) 0 0 (fm_A b) := by
  refine fm_enter (by decide) (Nat.le_of_ble_eq_true rfl) ?_
  intro p e s m args below meth c9 hc hr hnm hex htg
  have hlo := isM_lo hM
  have hlq := isM_lo hQ
  refine fm_iconst (v := nI 0) hc d_Si_sendArrivals_0 rfl ?_
  refine fm_istore_n (lv' := [(2, .int (nI 0)), (0, .ref (90 + 124 * j)), (1, .ref 16)]) hc d_Si_sendArrivals_1 rfl (by decide) rfl ?_
  refine fm_loopI (N := 8) (lv := fun k => [(2, .int (nI k)), (0, .ref (90 + 124 * j)), (1, .ref 16)]) (I := fun k M' => hc_W M' w (ar_all j m0 s0 ms k) ∧ fw_M M M') (fun k Mk hk hI ih => ?_) (fun Mk hI => ?_) ⟨hw, fwM_rf M⟩
  · obtain ⟨i1, f⟩ := hI
    have hPk := MP_of (by rw [f.1] : Mk.2.2 = M.2.2) hP
    have hPqk := MP_of (by rw [f.1] : Mk.2.2 = M.2.2) hPq
    have hpk := wiP_of (by rw [f.1] : Mk.2.2 = M.2.2) hp
    have hk1 := hcM_fw hlo.1 f h
    have hk2 := hcM_fw hlq.1 f g
    obtain ⟨S1, K1, O1, T1, G1, H1, V1, D1⟩ := m0
    obtain ⟨S2, K2, O2, T2, G2, H2, V2, D2⟩ := s0
    have e : ar_all j (S1, K1, O1, T1, G1, H1, V1, D1) (S2, K2, O2, T2, G2, H2, V2, D2) ms (k + 1) = ar_one j (S1, K1, O1, T1, G1, H1, V1, D1) (S2, K2, O2, T2, G2, H2, V2, D2) k (ar_all j (S1, K1, O1, T1, G1, H1, V1, D1) (S2, K2, O2, T2, G2, H2, V2, D2) ms k) := rfl
    rw [e] at ih
    generalize ar_all j (S1, K1, O1, T1, G1, H1, V1, D1) (S2, K2, O2, T2, G2, H2, V2, D2) ms k = wk at *
    have hsl : Mk.1 (mm + 1) k = nI (S1 k) := hk1.1 k hk
    have hsq : Mk.1 (mq + 1) k = nI (S2 k) := hk2.1 k hk
    have s4 : S1 k ≤ 4 := hma.1 k hk
    have q4 : S2 k ≤ 4 := hsa.1 k hk
    have no : ¬ (S1 k = 2 ∧ S2 k = 2 ∧ (G2 k).1 4 = (G1 k).1 4) → ar_one j (S1, K1, O1, T1, G1, H1, V1, D1) (S2, K2, O2, T2, G2, H2, V2, D2) k wk = wk := fun q => if_neg q
    have yes : (S1 k = 2 ∧ S2 k = 2 ∧ (G2 k).1 4 = (G1 k).1 4) → ar_one j (S1, K1, O1, T1, G1, H1, V1, D1) (S2, K2, O2, T2, G2, H2, V2, D2) k wk = wi_send wk (0, (G1 k).1 0, nI ((G1 k).1 4), nI j, T1 k, im_B (G1 k)) := fun q => if_pos q
    by_cases g1 : S1 k = 2
    · have wk1 : ag_wf k (G1 k) := hma.2 k hk (by rw [g1]; decide)
      have hA : hc_A Mk (mm + (9 + 4 * k)) (G1 k) := hk1.2.2.2.2.2.2 k hk (by rw [g1]; decide)
      have w6 : (G1 k).1 4 + (G1 k).1 3 ≤ 200 := wk1.2.2.2.2.2.1
      have w7 : (G1 k).1 7 ≤ 1 := wk1.2.2.2.2.2.2.2.2
      by_cases g2 : S2 k = 2
      · have wk2 : ag_wf k (G2 k) := hsa.2 k hk (by rw [g2]; decide)
        have hA2 : hc_A Mk (mq + (9 + 4 * k)) (G2 k) := hk2.2.2.2.2.2.2 k hk (by rw [g2]; decide)
        have v6 : (G2 k).1 4 + (G2 k).1 3 ≤ 200 := wk2.2.2.2.2.2.1
        by_cases g3 : (G2 k).1 4 = (G1 k).1 4
        · refine fm_iload_n hc d_Si_sendArrivals_2 rfl rfl ?_
          refine fm_bipush (v := nI 8) hc d_Si_sendArrivals_3 rfl ?_
          refine fm_icmp_ge (tgt := 70) hc d_Si_sendArrivals_5 rfl (fun g => absurd g (hnle (a := 8) (c := k) hk (by omega))) (fun _ => ?_)
          refine fm_aload_n hc d_Si_sendArrivals_8 rfl rfl ?_
          refine fm_getR (k := 3) (q := mm) hc K_Si d_Si_sendArrivals_9 q_337 rfl (by omega) (by omega) (ly_Si hj) (by decide) (by decide) rfl (by rw [f.1]; exact hm) ?_
          refine fm_getR (k := 4) (q := mm + 5) hc K_Me d_Si_sendArrivals_12 q_316 rfl (by omega) (by omega) (ly_M0 hM) (by decide) (by decide) rfl hPk.2.2.2.2.1 ?_
          refine fm_iload_n hc d_Si_sendArrivals_15 rfl rfl ?_
          refine fm_aald (q := mm + (9 + 4 * k)) (j := k) (len := 8) hc 7 d_Si_sendArrivals_16 (by omega) (by omega) (ly_M hM (k := 5) (by omega)) (by decide) rfl (by omega) (by decide) (hPk.2.2.2.2.2.2.2.2 k hk).1 ?_
          refine fm_astore_n (lv' := [(3, .ref (mm + (9 + 4 * k))), (2, .int (nI k)), (0, .ref (90 + 124 * j)), (1, .ref 16)]) hc d_Si_sendArrivals_17 rfl (by decide) rfl ?_
          refine fm_aload_n hc d_Si_sendArrivals_18 rfl rfl ?_
          refine fm_getR (k := 3) (q := mm) hc K_Si d_Si_sendArrivals_19 q_337 rfl (by omega) (by omega) (ly_Si hj) (by decide) (by decide) rfl (by rw [f.1]; exact hm) ?_
          refine fm_getR (k := 0) (q := mm + 1) hc K_Me d_Si_sendArrivals_22 q_306 rfl (by omega) (by omega) (ly_M0 hM) (by decide) (by decide) rfl hPk.1 ?_
          refine fm_iload_n hc d_Si_sendArrivals_25 rfl rfl ?_
          refine fm_iald (j := k) (len := 8) hc 0 d_Si_sendArrivals_26 (by omega) (by omega) (ly_M hM (k := 1) (by omega)) rfl (by omega) (by decide) ?_
          refine fm_top (congrArg Value.int (show Mk.1 (mm + 1) k = nI (S1 k) from hsl)) ?_
          refine fm_iconst (v := nI 2) hc d_Si_sendArrivals_27 rfl ?_
          refine fm_icmp_ne (tgt := 64) hc d_Si_sendArrivals_28 rfl (fun g => absurd (congrArg nI g1) g) (fun _ => ?_)
          refine fm_aload_n hc d_Si_sendArrivals_31 rfl rfl ?_
          refine fm_getR (k := 4) (q := mq) hc K_Si d_Si_sendArrivals_32 q_339 rfl (by omega) (by omega) (ly_Si hj) (by decide) (by decide) rfl (by rw [f.1]; exact hs) ?_
          refine fm_iload_n hc d_Si_sendArrivals_35 rfl rfl ?_
          refine fm_aload_n hc d_Si_sendArrivals_36 rfl rfl ?_
          refine fm_getI (k := 4) hc K_Tr d_Si_sendArrivals_37 q_191 rfl (by omega) (by omega) (ly_Mt hM hk) (by decide) (by decide) rfl ?_
          refine fm_top (congrArg Value.int (show Mk.1 (mm + (9 + 4 * k)) 4 = nI ((G1 k).1 4) from (hA.1 4 (by decide)))) ?_
          refine fm_callV (av := [.int (nI k), .int (nI ((G1 k).1 4))]) (rest := []) (ob := mq) (ci := 6) (r0 := ("AgentNet$Memory", F_Me, 6)) (y := y_Me_isLeaving) (bytes := b_Me_isLeaving) hc fm_T0_good (fm_EX_st b x) hex q_721 q_11 q_718 q_719 q_720 pd_Me_isLeaving (by omega) (by omega) (ly_M0 hQ) (by decide) rfl rfl (c_leav1 (mm := mq) hn hQ hPqk hk hsq q4 (hA2.1 4 (by decide)) (by omega) (by omega) g2 g3) ⟨rfl, rfl, Nat.le_of_ble_eq_true rfl, Nat.le_of_ble_eq_true rfl⟩ ⟨Nat.le_of_ble_eq_true rfl, Nat.le_of_ble_eq_true rfl⟩ d_Si_sendArrivals_40 (Nat.le_of_ble_eq_true rfl) (fun r n2 M2 hp => ?_)
          obtain ⟨rfl, hq1, hq2⟩ := hp
          replace hq1 := hq1.symm
          replace hq2 := hq2.symm
          subst hq1 hq2
          refine fm_cnt (z' := (0, 0)) rfl (fm_st (st' := [.int (nI 1)]) rfl ?_)
          refine fm_if_eq (tgt := 64) hc d_Si_sendArrivals_43 rfl (fun g => absurd g (by decide)) (fun _ => ?_)
          refine fm_aload_n hc d_Si_sendArrivals_46 rfl rfl ?_
          refine fm_aload_n hc d_Si_sendArrivals_47 rfl rfl ?_
          refine fm_aload_n hc d_Si_sendArrivals_48 rfl rfl ?_
          refine fm_getI (k := 0) hc K_Si d_Si_sendArrivals_49 q_332 rfl (by omega) (by omega) (ly_Si hj) (by decide) (by decide) rfl ?_
          refine fm_top (congrArg Value.int (show Mk.1 (90 + 124 * j) 0 = nI j from (by rw [f.2 _ (by omega)]; exact h0))) ?_
          refine fm_aload_n hc d_Si_sendArrivals_52 rfl rfl ?_
          refine fm_getR (k := 3) (q := mm) hc K_Si d_Si_sendArrivals_53 q_337 rfl (by omega) (by omega) (ly_Si hj) (by decide) (by decide) rfl (by rw [f.1]; exact hm) ?_
          refine fm_getR (k := 3) (q := mm + 4) hc K_Me d_Si_sendArrivals_56 q_313 rfl (by omega) (by omega) (ly_M0 hM) (by decide) (by decide) rfl hPk.2.2.2.1 ?_
          refine fm_iload_n hc d_Si_sendArrivals_59 rfl rfl ?_
          refine fm_iald (j := k) (len := 8) hc 0 d_Si_sendArrivals_60 (by omega) (by omega) (ly_M hM (k := 4) (by omega)) rfl (by omega) (by decide) ?_
          refine fm_top (congrArg Value.int (show Mk.1 (mm + 4) k = T1 k from (hk1.2.2.2.1 k hk))) ?_
          refine fm_callV (av := [.ref (mm + (9 + 4 * k)), .int (nI j), .int (T1 k)]) (rest := []) (ob := 16) (ci := 4) (r0 := ("AgentNet$Wire", F_Wi, 3)) (y := y_Wi_sendArrival) (bytes := b_Wi_sendArrival) hc fm_T0_good (fm_EX_st b x) hex q_725 q_2 q_722 q_723 q_724 pd_Wi_sendArrival (by decide) (by omega) (by decide) (by decide) rfl rfl (c_sendArr (A := G1 k) hn hpk i1 (isM_trL hM hk hn) (isM_trP hPk hk) hA wk1.1 (by omega) w7) ⟨rfl, rfl, Nat.le_of_ble_eq_true rfl, Nat.le_of_ble_eq_true rfl⟩ ⟨Nat.le_of_ble_eq_true rfl, Nat.le_of_ble_eq_true rfl⟩ d_Si_sendArrivals_61 (Nat.le_of_ble_eq_true rfl) (fun r n2 M2 hp => ?_)
          obtain ⟨rfl, hq1, r1, r2⟩ := hp
          replace hq1 := hq1.symm
          subst hq1
          revert r1 r2
          generalize M2 = Ma
          intro r1 r2
          refine fm_cnt (z' := (0, 0)) rfl (fm_st (st' := []) rfl ?_)
          refine fm_iinc (v := nI (k + 1)) (lv' := [(2, .int (nI (k + 1))), (3, .ref (mm + (9 + 4 * k))), (0, .ref (90 + 124 * j)), (1, .ref 16)]) hc d_Si_sendArrivals_64 rfl (nI_1 k) (by decide) rfl ?_
          refine fm_goto (tgt := 2) hc d_Si_sendArrivals_67 rfl ?_
          refine fm_dropl (lv' := [(2, .int (nI (k + 1))), (0, .ref (90 + 124 * j)), (1, .ref 16)]) (by simp) ?_
          exact ih _ ⟨by rw [yes ⟨g1, g2, g3⟩]; exact r1, fwM_tr f r2⟩
        · refine fm_iload_n hc d_Si_sendArrivals_2 rfl rfl ?_
          refine fm_bipush (v := nI 8) hc d_Si_sendArrivals_3 rfl ?_
          refine fm_icmp_ge (tgt := 70) hc d_Si_sendArrivals_5 rfl (fun g => absurd g (hnle (a := 8) (c := k) hk (by omega))) (fun _ => ?_)
          refine fm_aload_n hc d_Si_sendArrivals_8 rfl rfl ?_
          refine fm_getR (k := 3) (q := mm) hc K_Si d_Si_sendArrivals_9 q_337 rfl (by omega) (by omega) (ly_Si hj) (by decide) (by decide) rfl (by rw [f.1]; exact hm) ?_
          refine fm_getR (k := 4) (q := mm + 5) hc K_Me d_Si_sendArrivals_12 q_316 rfl (by omega) (by omega) (ly_M0 hM) (by decide) (by decide) rfl hPk.2.2.2.2.1 ?_
          refine fm_iload_n hc d_Si_sendArrivals_15 rfl rfl ?_
          refine fm_aald (q := mm + (9 + 4 * k)) (j := k) (len := 8) hc 7 d_Si_sendArrivals_16 (by omega) (by omega) (ly_M hM (k := 5) (by omega)) (by decide) rfl (by omega) (by decide) (hPk.2.2.2.2.2.2.2.2 k hk).1 ?_
          refine fm_astore_n (lv' := [(3, .ref (mm + (9 + 4 * k))), (2, .int (nI k)), (0, .ref (90 + 124 * j)), (1, .ref 16)]) hc d_Si_sendArrivals_17 rfl (by decide) rfl ?_
          refine fm_aload_n hc d_Si_sendArrivals_18 rfl rfl ?_
          refine fm_getR (k := 3) (q := mm) hc K_Si d_Si_sendArrivals_19 q_337 rfl (by omega) (by omega) (ly_Si hj) (by decide) (by decide) rfl (by rw [f.1]; exact hm) ?_
          refine fm_getR (k := 0) (q := mm + 1) hc K_Me d_Si_sendArrivals_22 q_306 rfl (by omega) (by omega) (ly_M0 hM) (by decide) (by decide) rfl hPk.1 ?_
          refine fm_iload_n hc d_Si_sendArrivals_25 rfl rfl ?_
          refine fm_iald (j := k) (len := 8) hc 0 d_Si_sendArrivals_26 (by omega) (by omega) (ly_M hM (k := 1) (by omega)) rfl (by omega) (by decide) ?_
          refine fm_top (congrArg Value.int (show Mk.1 (mm + 1) k = nI (S1 k) from hsl)) ?_
          refine fm_iconst (v := nI 2) hc d_Si_sendArrivals_27 rfl ?_
          refine fm_icmp_ne (tgt := 64) hc d_Si_sendArrivals_28 rfl (fun g => absurd (congrArg nI g1) g) (fun _ => ?_)
          refine fm_aload_n hc d_Si_sendArrivals_31 rfl rfl ?_
          refine fm_getR (k := 4) (q := mq) hc K_Si d_Si_sendArrivals_32 q_339 rfl (by omega) (by omega) (ly_Si hj) (by decide) (by decide) rfl (by rw [f.1]; exact hs) ?_
          refine fm_iload_n hc d_Si_sendArrivals_35 rfl rfl ?_
          refine fm_aload_n hc d_Si_sendArrivals_36 rfl rfl ?_
          refine fm_getI (k := 4) hc K_Tr d_Si_sendArrivals_37 q_191 rfl (by omega) (by omega) (ly_Mt hM hk) (by decide) (by decide) rfl ?_
          refine fm_top (congrArg Value.int (show Mk.1 (mm + (9 + 4 * k)) 4 = nI ((G1 k).1 4) from (hA.1 4 (by decide)))) ?_
          refine fm_callV (av := [.int (nI k), .int (nI ((G1 k).1 4))]) (rest := []) (ob := mq) (ci := 6) (r0 := ("AgentNet$Memory", F_Me, 6)) (y := y_Me_isLeaving) (bytes := b_Me_isLeaving) hc fm_T0_good (fm_EX_st b x) hex q_721 q_11 q_718 q_719 q_720 pd_Me_isLeaving (by omega) (by omega) (ly_M0 hQ) (by decide) rfl rfl (c_leav2 (mm := mq) hn hQ hPqk hk hsq q4 (hA2.1 4 (by decide)) (by omega) (by omega) g2 g3) ⟨rfl, rfl, Nat.le_of_ble_eq_true rfl, Nat.le_of_ble_eq_true rfl⟩ ⟨Nat.le_of_ble_eq_true rfl, Nat.le_of_ble_eq_true rfl⟩ d_Si_sendArrivals_40 (Nat.le_of_ble_eq_true rfl) (fun r n2 M2 hp => ?_)
          obtain ⟨rfl, hq1, hq2⟩ := hp
          replace hq1 := hq1.symm
          replace hq2 := hq2.symm
          subst hq1 hq2
          refine fm_cnt (z' := (0, 0)) rfl (fm_st (st' := [.int (nI 0)]) rfl ?_)
          refine fm_if_eq (tgt := 64) hc d_Si_sendArrivals_43 rfl (fun _ => ?_) (fun g => absurd (by decide) g)
          refine fm_iinc (v := nI (k + 1)) (lv' := [(2, .int (nI (k + 1))), (3, .ref (mm + (9 + 4 * k))), (0, .ref (90 + 124 * j)), (1, .ref 16)]) hc d_Si_sendArrivals_64 rfl (nI_1 k) (by decide) rfl ?_
          refine fm_goto (tgt := 2) hc d_Si_sendArrivals_67 rfl ?_
          refine fm_dropl (lv' := [(2, .int (nI (k + 1))), (0, .ref (90 + 124 * j)), (1, .ref 16)]) (by simp) ?_
          exact ih _ ⟨by rw [no (fun q => g3 q.2.2)]; exact i1, f⟩
      · refine fm_iload_n hc d_Si_sendArrivals_2 rfl rfl ?_
        refine fm_bipush (v := nI 8) hc d_Si_sendArrivals_3 rfl ?_
        refine fm_icmp_ge (tgt := 70) hc d_Si_sendArrivals_5 rfl (fun g => absurd g (hnle (a := 8) (c := k) hk (by omega))) (fun _ => ?_)
        refine fm_aload_n hc d_Si_sendArrivals_8 rfl rfl ?_
        refine fm_getR (k := 3) (q := mm) hc K_Si d_Si_sendArrivals_9 q_337 rfl (by omega) (by omega) (ly_Si hj) (by decide) (by decide) rfl (by rw [f.1]; exact hm) ?_
        refine fm_getR (k := 4) (q := mm + 5) hc K_Me d_Si_sendArrivals_12 q_316 rfl (by omega) (by omega) (ly_M0 hM) (by decide) (by decide) rfl hPk.2.2.2.2.1 ?_
        refine fm_iload_n hc d_Si_sendArrivals_15 rfl rfl ?_
        refine fm_aald (q := mm + (9 + 4 * k)) (j := k) (len := 8) hc 7 d_Si_sendArrivals_16 (by omega) (by omega) (ly_M hM (k := 5) (by omega)) (by decide) rfl (by omega) (by decide) (hPk.2.2.2.2.2.2.2.2 k hk).1 ?_
        refine fm_astore_n (lv' := [(3, .ref (mm + (9 + 4 * k))), (2, .int (nI k)), (0, .ref (90 + 124 * j)), (1, .ref 16)]) hc d_Si_sendArrivals_17 rfl (by decide) rfl ?_
        refine fm_aload_n hc d_Si_sendArrivals_18 rfl rfl ?_
        refine fm_getR (k := 3) (q := mm) hc K_Si d_Si_sendArrivals_19 q_337 rfl (by omega) (by omega) (ly_Si hj) (by decide) (by decide) rfl (by rw [f.1]; exact hm) ?_
        refine fm_getR (k := 0) (q := mm + 1) hc K_Me d_Si_sendArrivals_22 q_306 rfl (by omega) (by omega) (ly_M0 hM) (by decide) (by decide) rfl hPk.1 ?_
        refine fm_iload_n hc d_Si_sendArrivals_25 rfl rfl ?_
        refine fm_iald (j := k) (len := 8) hc 0 d_Si_sendArrivals_26 (by omega) (by omega) (ly_M hM (k := 1) (by omega)) rfl (by omega) (by decide) ?_
        refine fm_top (congrArg Value.int (show Mk.1 (mm + 1) k = nI (S1 k) from hsl)) ?_
        refine fm_iconst (v := nI 2) hc d_Si_sendArrivals_27 rfl ?_
        refine fm_icmp_ne (tgt := 64) hc d_Si_sendArrivals_28 rfl (fun g => absurd (congrArg nI g1) g) (fun _ => ?_)
        refine fm_aload_n hc d_Si_sendArrivals_31 rfl rfl ?_
        refine fm_getR (k := 4) (q := mq) hc K_Si d_Si_sendArrivals_32 q_339 rfl (by omega) (by omega) (ly_Si hj) (by decide) (by decide) rfl (by rw [f.1]; exact hs) ?_
        refine fm_iload_n hc d_Si_sendArrivals_35 rfl rfl ?_
        refine fm_aload_n hc d_Si_sendArrivals_36 rfl rfl ?_
        refine fm_getI (k := 4) hc K_Tr d_Si_sendArrivals_37 q_191 rfl (by omega) (by omega) (ly_Mt hM hk) (by decide) (by decide) rfl ?_
        refine fm_top (congrArg Value.int (show Mk.1 (mm + (9 + 4 * k)) 4 = nI ((G1 k).1 4) from (hA.1 4 (by decide)))) ?_
        refine fm_callV (av := [.int (nI k), .int (nI ((G1 k).1 4))]) (rest := []) (ob := mq) (ci := 6) (r0 := ("AgentNet$Memory", F_Me, 6)) (y := y_Me_isLeaving) (bytes := b_Me_isLeaving) hc fm_T0_good (fm_EX_st b x) hex q_721 q_11 q_718 q_719 q_720 pd_Me_isLeaving (by omega) (by omega) (ly_M0 hQ) (by decide) rfl rfl (c_leav0 (mm := mq) hn hQ hPqk hk hsq q4 g2) ⟨rfl, rfl, Nat.le_of_ble_eq_true rfl, Nat.le_of_ble_eq_true rfl⟩ ⟨Nat.le_of_ble_eq_true rfl, Nat.le_of_ble_eq_true rfl⟩ d_Si_sendArrivals_40 (Nat.le_of_ble_eq_true rfl) (fun r n2 M2 hp => ?_)
        obtain ⟨rfl, hq1, hq2⟩ := hp
        replace hq1 := hq1.symm
        replace hq2 := hq2.symm
        subst hq1 hq2
        refine fm_cnt (z' := (0, 0)) rfl (fm_st (st' := [.int (nI 0)]) rfl ?_)
        refine fm_if_eq (tgt := 64) hc d_Si_sendArrivals_43 rfl (fun _ => ?_) (fun g => absurd (by decide) g)
        refine fm_iinc (v := nI (k + 1)) (lv' := [(2, .int (nI (k + 1))), (3, .ref (mm + (9 + 4 * k))), (0, .ref (90 + 124 * j)), (1, .ref 16)]) hc d_Si_sendArrivals_64 rfl (nI_1 k) (by decide) rfl ?_
        refine fm_goto (tgt := 2) hc d_Si_sendArrivals_67 rfl ?_
        refine fm_dropl (lv' := [(2, .int (nI (k + 1))), (0, .ref (90 + 124 * j)), (1, .ref 16)]) (by simp) ?_
        exact ih _ ⟨by rw [no (fun q => g2 q.2.1)]; exact i1, f⟩
    · refine fm_iload_n hc d_Si_sendArrivals_2 rfl rfl ?_
      refine fm_bipush (v := nI 8) hc d_Si_sendArrivals_3 rfl ?_
      refine fm_icmp_ge (tgt := 70) hc d_Si_sendArrivals_5 rfl (fun g => absurd g (hnle (a := 8) (c := k) hk (by omega))) (fun _ => ?_)
      refine fm_aload_n hc d_Si_sendArrivals_8 rfl rfl ?_
      refine fm_getR (k := 3) (q := mm) hc K_Si d_Si_sendArrivals_9 q_337 rfl (by omega) (by omega) (ly_Si hj) (by decide) (by decide) rfl (by rw [f.1]; exact hm) ?_
      refine fm_getR (k := 4) (q := mm + 5) hc K_Me d_Si_sendArrivals_12 q_316 rfl (by omega) (by omega) (ly_M0 hM) (by decide) (by decide) rfl hPk.2.2.2.2.1 ?_
      refine fm_iload_n hc d_Si_sendArrivals_15 rfl rfl ?_
      refine fm_aald (q := mm + (9 + 4 * k)) (j := k) (len := 8) hc 7 d_Si_sendArrivals_16 (by omega) (by omega) (ly_M hM (k := 5) (by omega)) (by decide) rfl (by omega) (by decide) (hPk.2.2.2.2.2.2.2.2 k hk).1 ?_
      refine fm_astore_n (lv' := [(3, .ref (mm + (9 + 4 * k))), (2, .int (nI k)), (0, .ref (90 + 124 * j)), (1, .ref 16)]) hc d_Si_sendArrivals_17 rfl (by decide) rfl ?_
      refine fm_aload_n hc d_Si_sendArrivals_18 rfl rfl ?_
      refine fm_getR (k := 3) (q := mm) hc K_Si d_Si_sendArrivals_19 q_337 rfl (by omega) (by omega) (ly_Si hj) (by decide) (by decide) rfl (by rw [f.1]; exact hm) ?_
      refine fm_getR (k := 0) (q := mm + 1) hc K_Me d_Si_sendArrivals_22 q_306 rfl (by omega) (by omega) (ly_M0 hM) (by decide) (by decide) rfl hPk.1 ?_
      refine fm_iload_n hc d_Si_sendArrivals_25 rfl rfl ?_
      refine fm_iald (j := k) (len := 8) hc 0 d_Si_sendArrivals_26 (by omega) (by omega) (ly_M hM (k := 1) (by omega)) rfl (by omega) (by decide) ?_
      refine fm_top (congrArg Value.int (show Mk.1 (mm + 1) k = nI (S1 k) from hsl)) ?_
      refine fm_iconst (v := nI 2) hc d_Si_sendArrivals_27 rfl ?_
      refine fm_icmp_ne (tgt := 64) hc d_Si_sendArrivals_28 rfl (fun _ => ?_) (fun g => absurd g (fun q => g1 (nI_inj (by omega) (by decide) q)))
      refine fm_iinc (v := nI (k + 1)) (lv' := [(2, .int (nI (k + 1))), (3, .ref (mm + (9 + 4 * k))), (0, .ref (90 + 124 * j)), (1, .ref 16)]) hc d_Si_sendArrivals_64 rfl (nI_1 k) (by decide) rfl ?_
      refine fm_goto (tgt := 2) hc d_Si_sendArrivals_67 rfl ?_
      refine fm_dropl (lv' := [(2, .int (nI (k + 1))), (0, .ref (90 + 124 * j)), (1, .ref 16)]) (by simp) ?_
      exact ih _ ⟨by rw [no (fun q => g1 q.1)]; exact i1, f⟩
  · obtain ⟨i1, f⟩ := hI
    refine fm_iload_n hc d_Si_sendArrivals_2 rfl rfl ?_
    refine fm_bipush (v := nI 8) hc d_Si_sendArrivals_3 rfl ?_
    refine fm_icmp_ge (tgt := 70) hc d_Si_sendArrivals_5 rfl (fun _ => ?_) (fun g => absurd (by decide) g)
    exact fm_vret hc hr d_Si_sendArrivals_70 (Nat.le_refl _) (Nat.le_refl _) ⟨rfl, rfl, i1, f⟩
def fr_T (mm : Nat) (M M' : fm_M) : Prop := M'.2.2 = M.2.2 ∧ ∀ q, (q < mm ∨ mm + 41 ≤ q) → (q < 16 ∨ 65 < q) → M'.1 q = M.1 q ∧ M'.2.1 q = M.2.1 q
theorem x_tick_go {l : Launch} {b : Nat} {x : Nat → Nat} {D : va_G} {dA : Nat → ClassId} (htr : l.stackTraces = false) {j mm mq n : Nat} {w : Nat → Nat} {m0 s0 : am_T} {ms : List mg_T} {M : fm_M} (hn : 586 ≤ n) (hj : j < 4) (hM : fm_isM mm) (hQ : fm_isM mq) (hm : M.2.2 (90 + 124 * j) 3 = some mm) (hs : M.2.2 (90 + 124 * j) 4 = some mq) (h0 : M.1 (90 + 124 * j) 0 = nI j) (hP : fm_MP M mm) (hPq : fm_MP M mq) (hp : wi_P M w) (h : hc_M M mm m0) (g : hc_M M mq s0) (hw : hc_W M w ms) (hma : am_W m0) (hsa : am_wfs s0) (hA : fm_AP M) (hne : mm ≠ mq) (hu : ¬ M.1 (90 + 124 * j) 1 = 0) : MetFree l y_An_tick (headSpec (Cond.code y_An_tick b_An_tick 2 (some .int) :: fm_T0) ({ frames := 10, cells := 1, slots := 6, locals := 400 })) (fm_Pc fm_lay fm_nf fm_fk fm_cl b x D dA (fm_tys dA) (fm_EX b x) false [.ref 8, .int (nI j)] n M) (fun _ _ _ _ _ => True) (fx_Q fm_lay fm_nf fm_fk fm_cl b x D dA (fun r n' M' => r = some (.int (nI (ar_all j (am_pass m0) s0 ms 8).length)) ∧ n' = n ∧ hc_M M' mm (am_pass m0) ∧ hc_M M' mq s0 ∧ hc_W M' w (ar_all j (am_pass m0) s0 ms 8) ∧ fr_T mm M M') (fun _ _ _ => False) 1 6) := by
  refine fx_enter (by decide) (Nat.le_of_ble_eq_true rfl) ?_
  intro p e s m args below meth c9 hc hr hnm hex htg htab
  have hlo := isM_lo hM
  have hlq := isM_lo hQ
  have hfar := isM_far hM hQ hne
  have hWp := amW_pass hma
  obtain ⟨S1, K1, O1, T1, G1, H1, V1, D1⟩ := m0
  have hwt : ∀ k a, k ≤ 8 → a < 8 → S1 a = 1 → (pk_G S1 G1 k a).1 6 ≤ 20 := fun k a hk ha hs => (pk_wf (S := S1) (G := G1) (fun a ha hs => hma.2.1 a ha hs) k a ha (by rw [hs]; decide)).1.2.2.2.2.2.2.2.1
  have hpw := hp
  clear hp
  refine fm_iload_n hc d_An_tick_0 rfl rfl ?_
  refine fm_callS (av := [.int (nI j)]) (rest := []) (y := y_An_isHost) (bytes := b_An_isHost) hc fm_T0_good (fm_EX_st b x) hex q_397 q_1 q_395 q_396 pd_An_isHost (c_An_isHost_ok (in4_of hj)) ⟨rfl, rfl, Nat.le_of_ble_eq_true rfl, Nat.le_of_ble_eq_true rfl⟩ ⟨Nat.le_of_ble_eq_true rfl, Nat.le_of_ble_eq_true rfl⟩ d_An_tick_1 (Nat.le_of_ble_eq_true rfl) (fun r n2 M2 hp => ?_)
  obtain ⟨rfl, hq1, hq2⟩ := hp
  replace hq1 := hq1.symm
  replace hq2 := hq2.symm
  subst hq1 hq2
  refine fm_cnt (z' := (0, 0)) rfl (fm_st (st' := [.int (nI 1)]) rfl ?_)
  refine fm_if_ne (tgt := 15) hc d_An_tick_4 rfl (fun _ => ?_) (fun g => absurd g (by decide))
  refine fm_aload_n hc d_An_tick_15 rfl rfl ?_
  refine fm_getR (k := 2) (q := 15) hc K_An d_An_tick_16 q_357 rfl (by decide) (by omega) (by decide) (by decide) (by decide) rfl (ap_2 hA) ?_
  refine fm_iload_n hc d_An_tick_19 rfl rfl ?_
  refine fm_aald (q := 90 + 124 * j) (j := j) (len := 4) hc 5 d_An_tick_20 (by decide) (by omega) (by decide) (by decide) rfl (by omega) (by decide) (ap_site hA hj) ?_
  refine fm_getI (k := 1) hc K_Si d_An_tick_21 q_334 rfl (by omega) (by omega) (ly_Si hj) (by decide) (by decide) rfl ?_
  refine fm_if_ne (tgt := 35) hc d_An_tick_24 rfl (fun _ => ?_) (fun g => absurd g hu)
  refine fm_aload_n hc d_An_tick_35 rfl rfl ?_
  refine fm_getR (k := 2) (q := 15) hc K_An d_An_tick_36 q_357 rfl (by decide) (by omega) (by decide) (by decide) (by decide) rfl (ap_2 hA) ?_
  refine fm_iload_n hc d_An_tick_39 rfl rfl ?_
  refine fm_aald (q := 90 + 124 * j) (j := j) (len := 4) hc 5 d_An_tick_40 (by decide) (by omega) (by decide) (by decide) rfl (by omega) (by decide) (ap_site hA hj) ?_
  refine fm_getR (k := 3) (q := mm) hc K_Si d_An_tick_41 q_338 rfl (by omega) (by omega) (ly_Si hj) (by decide) (by decide) rfl hm ?_
  refine fm_callV (av := []) (rest := []) (ob := mm) (ci := 6) (r0 := ("AgentNet$Memory", F_Me, 6)) (y := y_Me_passTime) (bytes := b_Me_passTime) hc fm_T0_good (fm_EX_st b x) hex q_713 q_11 q_710 q_711 q_712 pd_Me_passTime (by omega) (by omega) (ly_M0 hM) (by decide) rfl rfl (c_passTime hn hM hP h hma.1 hwt) ⟨rfl, rfl, Nat.le_of_ble_eq_true rfl, Nat.le_of_ble_eq_true rfl⟩ ⟨Nat.le_of_ble_eq_true rfl, Nat.le_of_ble_eq_true rfl⟩ d_An_tick_44 (Nat.le_of_ble_eq_true rfl) (fun r n2 M2 hp => ?_)
  obtain ⟨rfl, hq1, r1, r2⟩ := hp
  replace hq1 := hq1.symm
  subst hq1
  revert r1 r2
  generalize M2 = Ma
  intro r1 r2
  have hAa := AP_of r2.1 hA
  have hpa := wiP_of r2.1 hpw
  have ga : hc_M Ma mq s0 := hcM_of (fun q c1 c2 => (r2.2 q (by omega) (by omega)).1) (fun q c1 c2 => (r2.2 q (by omega) (by omega)).2) g
  have hwa : hc_W Ma w ms := hcW_of hpw (fun q c1 c2 => (r2.2 q (by omega) (by omega)).1) hw
  refine fm_cnt (z' := (0, 0)) rfl (fm_st (st' := []) rfl ?_)
  refine fm_aload_n hc d_An_tick_47 rfl rfl ?_
  refine fm_getR (k := 2) (q := 15) hc K_An d_An_tick_48 q_357 rfl (by decide) (by omega) (by decide) (by decide) (by decide) rfl (ap_2 hAa) ?_
  refine fm_iload_n hc d_An_tick_51 rfl rfl ?_
  refine fm_aald (q := 90 + 124 * j) (j := j) (len := 4) hc 5 d_An_tick_52 (by decide) (by omega) (by decide) (by decide) rfl (by omega) (by decide) (ap_site hAa hj) ?_
  refine fm_aload_n hc d_An_tick_53 rfl rfl ?_
  refine fm_getR (k := 3) (q := 16) hc K_An d_An_tick_54 q_358 rfl (by decide) (by omega) (by decide) (by decide) (by decide) rfl (ap_3 hAa) ?_
  refine fm_callV (av := [.ref 16]) (rest := []) (ob := 90 + 124 * j) (ci := 8) (r0 := ("AgentNet$Site", F_Si, 6)) (y := y_Si_sendArrivals) (bytes := b_Si_sendArrivals) hc fm_T0_good (fm_EX_st b x) hex q_717 q_10 q_714 q_715 q_716 pd_Si_sendArrivals (by omega) (by omega) (ly_Si hj) (by decide) rfl rfl (c_sendArrs (m0 := am_pass (S1, K1, O1, T1, G1, H1, V1, D1)) hn hj hM hQ (by rw [r2.1]; exact hm) (by rw [r2.1]; exact hs) (by rw [(r2.2 (90 + 124 * j) (isM_site hM) (by omega)).1]; exact h0) (MP_of r2.1 hP) (MP_of r2.1 hPq) hpa r1 ga hwa ⟨hWp.1, hWp.2.1⟩ hsa) ⟨rfl, rfl, Nat.le_of_ble_eq_true rfl, Nat.le_of_ble_eq_true rfl⟩ ⟨Nat.le_of_ble_eq_true rfl, Nat.le_of_ble_eq_true rfl⟩ d_An_tick_57 (Nat.le_of_ble_eq_true rfl) (fun r n2 M2 hp => ?_)
  obtain ⟨rfl, hq1, r3, r4⟩ := hp
  replace hq1 := hq1.symm
  subst hq1
  revert r3 r4
  generalize M2 = Mb
  intro r3 r4
  refine fm_cnt (z' := (0, 0)) rfl (fm_st (st' := []) rfl ?_)
  refine fm_aload_n hc d_An_tick_60 rfl rfl ?_
  refine fm_getR (k := 3) (q := 16) hc K_An d_An_tick_61 q_358 rfl (by decide) (by omega) (by decide) (by decide) (by decide) rfl (ap_3 (AP_of (by rw [r4.1]) hAa)) ?_
  refine fm_getI (k := 1) hc K_Wi d_An_tick_64 q_85 rfl (by decide) (by omega) (by decide) (by decide) (by decide) rfl ?_
  refine fm_top (congrArg Value.int (show Mb.1 16 1 = nI ((ar_all j (am_pass (S1, K1, O1, T1, G1, H1, V1, D1)) s0 ms 8).length) from r3.1)) ?_
  exact fx_ret (fm_iret hc hr d_An_tick_67 (Nat.le_of_ble_eq_true rfl) (Nat.le_of_ble_eq_true rfl) ⟨rfl, rfl, hcM_fw hlo.1 r4 r1, hcM_fw hlq.1 r4 ga, r3, (by rw [r4.1]; exact r2.1), fun q c1 c2 => ⟨(r4.2 q (by omega)).trans (r2.2 q c1 (by omega)).1, (by rw [r4.1]; exact (r2.2 q c1 (by omega)).2)⟩⟩)
