/-! THE CLASS: seal; write entire -/
def sl_W (j : Nat) (s : am_T) (ms : List mg_T) : Nat → List mg_T
  | 0 => ms
  | k + 1 => if s.2.2.1 k = -1 then sl_W j s ms k else wi_send (sl_W j s ms k) (1, k, s.2.1 k, nI j, s.2.2.1 k, [])
def sl_O (s m : am_T) : Nat → Nat → Int32
  | 0 => m.2.2.1
  | k + 1 => if ¬ s.2.2.1 k = -1 ∧ m.2.1 k = s.2.1 k then va_up (sl_O s m k) k (-1) else sl_O s m k
def am_ow (m : am_T) (O : Nat → Int32) : am_T := (m.1, m.2.1, O, m.2.2.2)
theorem p3_ot {M : fm_M} {o k q : Nat} {v : Option Nat} (h : q ≠ o) : (fm_put3 M o k v).2.2 q = M.2.2 q := by
  funext i
  simp [fm_put3, va_up, h]
theorem p3_at {M : fm_M} {o k i : Nat} {v : Option Nat} (h : i ≠ k) : (fm_put3 M o k v).2.2 o i = M.2.2 o i := by simp [fm_put3, va_up, h]
theorem p3_same {M : fm_M} {o k : Nat} {v : Option Nat} : (fm_put3 M o k v).2.2 o k = v := by simp [fm_put3, va_up]
theorem MP_of2 {M M' : fm_M} {mm : Nat} (e : ∀ q, mm ≤ q → q < mm + 41 → M'.2.2 q = M.2.2 q) (h : fm_MP M mm) : fm_MP M' mm := by
  obtain ⟨h1, h2, h3, h4, h5, h6, h7, h8, h9⟩ := h
  refine ⟨by rw [e _ (by omega) (by omega)]; exact h1, by rw [e _ (by omega) (by omega)]; exact h2, by rw [e _ (by omega) (by omega)]; exact h3, by rw [e _ (by omega) (by omega)]; exact h4, by rw [e _ (by omega) (by omega)]; exact h5, by rw [e _ (by omega) (by omega)]; exact h6, by rw [e _ (by omega) (by omega)]; exact h7, by rw [e _ (by omega) (by omega)]; exact h8, fun a ha => ?_⟩
  rw [e _ (by omega) (by omega), e _ (by omega) (by omega)]
  exact h9 a ha
theorem wiP_of2 {M M' : fm_M} {w : Nat → Nat} (e : ∀ q, 16 ≤ q → q < 60 → M'.2.2 q = M.2.2 q) (h : wi_P M w) : wi_P M' w := by
  obtain ⟨h1, h2, h3, h4, h5, h6⟩ := h
  exact ⟨by rw [e _ (by omega) (by omega)]; exact h1, fun k hk => by rw [e _ (by omega) (by omega)]; exact h2 k hk, by rw [e _ (by omega) (by omega)]; exact h3, h4, h5, fun u hu => by rw [e _ (by omega) (by omega)]; exact h6 u hu⟩
theorem c_seal {l : Launch} {b : Nat} {x : Nat → Nat} {D : va_G} {dA : Nat → ClassId} {j mm mc mq n : Nat} {w : Nat → Nat} {m0 s0 : am_T} {ms : List mg_T} {C : Nat → Nat} {W : Nat → Nat → Int32} {Pb : Nat → Nat → Bool} {M : fm_M} (hn : 586 ≤ n) (hj : j < 4) (hM : fm_isM mm) (hC : fm_isM mc) (hne : mm ≠ mc) (hs3 : M.2.2 (90 + 124 * j) 3 = some mm) (hs4 : M.2.2 (90 + 124 * j) 4 = some mq) (hs5 : M.2.2 (90 + 124 * j) 5 = some mc) (h0 : M.1 (90 + 124 * j) 0 = nI j) (hP : fm_MP M mm) (hPc : fm_MP M mc) (hy : sy_P M 66) (hpw : wi_P M w) (h : hc_M M mm m0) (g : hc_M M mc s0) (hw : hc_W M w ms) (hl : hc_L M 66 C W) (hs : sr_ok C s0.2.2.2.2.2.2.2 s0.2.2.2.2.2.1 Pb) : Met l y_Si_seal (Cond.code y_Si_seal b_Si_seal 5 none :: fm_T0) ({ frames := 4, cells := 0, slots := 0, locals := 130 }) (fm_Pc fm_lay fm_nf fm_fk fm_cl b x D dA (fm_tys dA) (fm_EX b x) false [.ref (90 + 124 * j), .ref 66, .ref 16] n M) (fm_Qc fm_lay fm_nf fm_fk fm_cl b x D dA (fun r n' M' => r = none ∧ n' = n ∧ hc_M M' mm (am_ow m0 (sl_O s0 m0 8)) ∧ hc_M M' mc s0 ∧ hc_W M' w (sl_W j s0 ms 8) ∧ hc_L M' 66 (sr_C C s0.2.2.2.2.2.2.2) (sr_W C W s0.2.2.2.2.2.2.1) ∧ M'.2.2 (90 + 124 * j) 4 = some mc ∧ M'.2.2 (90 + 124 * j) 5 = some mq ∧ (∀ q, q ≠ 90 + 124 * j → M'.2.2 q = M.2.2 q) ∧ (∀ i, i ≠ 4 → i ≠ 5 → M'.2.2 (90 + 124 * j) i = M.2.2 (90 + 124 * j) i) ∧ M'.2.1 = M.2.1 ∧ (∀ q, q ≠ mm + 3 → q ≠ 67 → q ≠ 68 → (q < 16 ∨ 60 ≤ q) → M'.1 q = M.1 q))) 0 0 (fm_A b) := by
  refine fm_enter (by decide) (Nat.le_of_ble_eq_true rfl) ?_
  intro p e s m args below meth c9 hc hr hnm hex htg
  have hlo := isM_lo hM
  have hlc := isM_lo hC
  have hfar := isM_far hM hC hne
  have hsm := isM_site (j := j) hM
  have hsc := isM_site (j := j) hC
  have x2 : ∀ q, q ≠ 90 + 124 * j → (fm_put3 (fm_put3 M (90 + 124 * j) 4 (some mc)) (90 + 124 * j) 5 (some mq)).2.2 q = M.2.2 q := fun q hq => by rw [p3_ot hq, p3_ot hq]
  have x3 : (fm_put3 (fm_put3 M (90 + 124 * j) 4 (some mc)) (90 + 124 * j) 5 (some mq)).2.2 (90 + 124 * j) 3 = some mm := by rw [p3_at (by decide), p3_at (by decide)]; exact hs3
  have x4 : (fm_put3 (fm_put3 M (90 + 124 * j) 4 (some mc)) (90 + 124 * j) 5 (some mq)).2.2 (90 + 124 * j) 4 = some mc := by rw [p3_at (by decide), p3_same]
  have x5 : (fm_put3 (fm_put3 M (90 + 124 * j) 4 (some mc)) (90 + 124 * j) 5 (some mq)).2.2 (90 + 124 * j) 5 = some mq := p3_same
  have x9 : ∀ i, i ≠ 4 → i ≠ 5 → (fm_put3 (fm_put3 M (90 + 124 * j) 4 (some mc)) (90 + 124 * j) 5 (some mq)).2.2 (90 + 124 * j) i = M.2.2 (90 + 124 * j) i := fun i a b => by rw [p3_at b, p3_at a]
  have y1 := MP_of2 (M' := fm_put3 (fm_put3 M (90 + 124 * j) 4 (some mc)) (90 + 124 * j) 5 (some mq)) (fun q a b => x2 q (by omega)) hP
  have y2 := MP_of2 (M' := fm_put3 (fm_put3 M (90 + 124 * j) 4 (some mc)) (90 + 124 * j) 5 (some mq)) (fun q a b => x2 q (by omega)) hPc
  have y3 : sy_P (fm_put3 (fm_put3 M (90 + 124 * j) 4 (some mc)) (90 + 124 * j) 5 (some mq)) 66 := by unfold sy_P; rw [x2 66 (by omega)]; exact hy
  have y4 := wiP_of2 (M' := fm_put3 (fm_put3 M (90 + 124 * j) 4 (some mc)) (90 + 124 * j) 5 (some mq)) (fun q a b => x2 q (by omega)) hpw
  obtain ⟨S1, K1, O1, T1, G1, H1, V1, D1⟩ := m0
  obtain ⟨S2, K2, O2, T2, G2, H2, V2, D2⟩ := s0
  refine fm_aload_n hc d_Si_seal_0 rfl rfl ?_
  refine fm_getR (k := 4) (q := mq) hc K_Si d_Si_seal_1 q_339 rfl (by omega) (by omega) (ly_Si hj) (by decide) (by decide) rfl hs4 ?_
  refine fm_astore_n (lv' := [(3, .ref mq), (0, .ref (90 + 124 * j)), (1, .ref 66), (2, .ref 16)]) hc d_Si_seal_4 rfl (by decide) rfl ?_
  refine fm_aload_n hc d_Si_seal_5 rfl rfl ?_
  refine fm_aload_n hc d_Si_seal_6 rfl rfl ?_
  refine fm_getR (k := 5) (q := mc) hc K_Si d_Si_seal_7 q_341 rfl (by omega) (by omega) (ly_Si hj) (by decide) (by decide) rfl hs5 ?_
  refine fm_putR (k := 4) (v := mc) hc K_Si d_Si_seal_10 q_339 rfl (by omega) (by omega) (ly_Si hj) (by decide) (by decide) rfl rfl rfl rfl ?_
  refine fm_aload_n hc d_Si_seal_13 rfl rfl ?_
  refine fm_aload_n hc d_Si_seal_14 rfl rfl ?_
  refine fm_putR (k := 5) (v := mq) hc K_Si d_Si_seal_15 q_341 rfl (by omega) (by omega) (ly_Si hj) (by decide) (by decide) rfl rfl rfl rfl ?_
  refine fm_aload_n hc d_Si_seal_18 rfl rfl ?_
  refine fm_aload_n hc d_Si_seal_19 rfl rfl ?_
  refine fm_getR (k := 4) (q := mc) hc K_Si d_Si_seal_20 q_339 rfl (by omega) (by omega) (ly_Si hj) (by decide) (by decide) rfl x4 ?_
  refine fm_getR (k := 5) (q := mc + 6) hc K_Me d_Si_seal_23 q_318 rfl (by omega) (by omega) (ly_M0 hC) (by decide) (by decide) rfl y2.2.2.2.2.2.1 ?_
  refine fm_callV (av := [.ref (mc + 6)]) (rest := []) (ob := 66) (ci := 2) (r0 := ("AgentNet$Sayings", F_Sy, 2)) (y := y_Sy_addMissing) (bytes := b_Sy_addMissing) hc fm_T0_good (fm_EX_st b x) hex q_791 q_6 q_788 q_789 q_790 pd_Sy_addMissing (by decide) (by omega) (by decide) (by decide) rfl rfl (c_addMiss (o := 66) (q := mc + 6) (M := fm_put3 (fm_put3 M (90 + 124 * j) 4 (some mc)) (90 + 124 * j) 5 (some mq)) (C := C) (Dd := D2) (H := H2) (W := W) (V := V2) (P := Pb) (sy66 hn) (isM_syL hC hn) (Or.inl (by omega)) y3 (isM_syP y2) hl g.2.2.2.2.1 g.2.2.2.2.2.1 hs) ⟨rfl, rfl, Nat.le_of_ble_eq_true rfl, Nat.le_of_ble_eq_true rfl⟩ ⟨Nat.le_of_ble_eq_true rfl, Nat.le_of_ble_eq_true rfl⟩ d_Si_seal_26 (Nat.le_of_ble_eq_true rfl) (fun r n2 M2 hp => ?_)
  obtain ⟨rfl, hq1, r1, r2, r3⟩ := hp
  replace hq1 := hq1.symm
  subst hq1
  revert r1 r2 r3
  generalize M2 = Ma
  intro r1 r2 r3
  refine fm_cnt (z' := (0, 0)) rfl (fm_st (st' := []) rfl ?_)
  refine fm_iconst (v := nI 0) hc d_Si_seal_29 rfl ?_
  refine fm_istore (lv' := [(4, .int (nI 0)), (3, .ref mq), (0, .ref (90 + 124 * j)), (1, .ref 66), (2, .ref 16)]) hc d_Si_seal_30 (by decide) rfl ?_
  have z1 := MP_of (by rw [r2] : Ma.2.2 = (fm_put3 (fm_put3 M (90 + 124 * j) 4 (some mc)) (90 + 124 * j) 5 (some mq)).2.2) y1
  have z2 := MP_of (by rw [r2] : Ma.2.2 = (fm_put3 (fm_put3 M (90 + 124 * j) 4 (some mc)) (90 + 124 * j) 5 (some mq)).2.2) y2
  have z4 := wiP_of (by rw [r2] : Ma.2.2 = (fm_put3 (fm_put3 M (90 + 124 * j) 4 (some mc)) (90 + 124 * j) 5 (some mq)).2.2) y4
  have ea : ∀ q, q ≠ 67 → q ≠ 68 → Ma.1 q = M.1 q := r3
  have eb : Ma.2.1 = M.2.1 := by rw [r2]; rfl
  have hwa : hc_W Ma w ms := hcW_of hpw (fun q a b => ea q (by omega) (by omega)) hw
  refine fm_dropl (lv' := [(4, .int (nI 0)), (3, .ref mq), (0, .ref (90 + 124 * j)), (1, .ref 66), (2, .ref 16)]) (by simp) ?_
  refine fm_loopI (N := 8) (lv := fun k => [(4, .int (nI k)), (3, .ref mq), (0, .ref (90 + 124 * j)), (1, .ref 66), (2, .ref 16)]) (I := fun k M' => hc_W M' w (sl_W j (S2, K2, O2, T2, G2, H2, V2, D2) ms k) ∧ (∀ a, a < 8 → M'.1 (mm + 3) a = sl_O (S2, K2, O2, T2, G2, H2, V2, D2) (S1, K1, O1, T1, G1, H1, V1, D1) k a) ∧ M'.2 = Ma.2 ∧ ∀ q, q ≠ mm + 3 → (q < 16 ∨ 60 ≤ q) → M'.1 q = Ma.1 q) (fun k Mk hk hI ih => ?_) (fun Mk hI => ?_) ⟨hwa, fun a ha => by rw [ea _ (by omega) (by omega)]; exact h.2.2.1 a ha, rfl, fun _ _ _ => rfl⟩
  · obtain ⟨i1, i2, i3, i4⟩ := hI
    have w1 := MP_of (by rw [i3] : Mk.2.2 = Ma.2.2) z1
    have w2 := MP_of (by rw [i3] : Mk.2.2 = Ma.2.2) z2
    have w4 := wiP_of (by rw [i3] : Mk.2.2 = Ma.2.2) z4
    have k3 : Mk.2.2 (90 + 124 * j) 3 = some mm := by rw [i3, r2]; exact x3
    have k4 : Mk.2.2 (90 + 124 * j) 4 = some mc := by rw [i3, r2]; exact x4
    have ek : ∀ q, q ≠ mm + 3 → q ≠ 67 → q ≠ 68 → (q < 16 ∨ 60 ≤ q) → Mk.1 q = M.1 q := fun q a b c d => (i4 q a d).trans (ea q b c)
    have oc : Mk.1 (mc + 3) k = O2 k := by rw [ek _ (by omega) (by omega) (by omega) (by omega)]; exact g.2.2.1 k hk
    have kc : Mk.1 (mc + 2) k = K2 k := by rw [ek _ (by omega) (by omega) (by omega) (by omega)]; exact g.2.1 k hk
    have km : Mk.1 (mm + 2) k = K1 k := by rw [ek _ (by omega) (by omega) (by omega) (by omega)]; exact h.2.1 k hk
    have n0 : Mk.1 (90 + 124 * j) 0 = nI j := by rw [ek _ (by omega) (by omega) (by omega) (by omega)]; exact h0
    by_cases g1 : O2 k = -1
    · refine fm_iload hc d_Si_seal_32 rfl ?_
      refine fm_bipush (v := nI 8) hc d_Si_seal_34 rfl ?_
      refine fm_icmp_ge (tgt := 123) hc d_Si_seal_36 rfl (fun gQ => absurd gQ (hnle (a := 8) (c := k) hk (by omega))) (fun _ => ?_)
      refine fm_aload_n hc d_Si_seal_39 rfl rfl ?_
      refine fm_getR (k := 4) (q := mc) hc K_Si d_Si_seal_40 q_339 rfl (by omega) (by omega) (ly_Si hj) (by decide) (by decide) rfl k4 ?_
      refine fm_getR (k := 2) (q := mc + 3) hc K_Me d_Si_seal_43 q_311 rfl (by omega) (by omega) (ly_M0 hC) (by decide) (by decide) rfl w2.2.2.1 ?_
      refine fm_iload hc d_Si_seal_46 rfl ?_
      refine fm_iald (j := k) (len := 8) hc 0 d_Si_seal_48 (by omega) (by omega) (ly_M hC (k := 3) (by omega)) rfl (by omega) (by decide) ?_
      refine fm_top (congrArg Value.int (show Mk.1 (mc + 3) k = O2 k from oc)) ?_
      refine fm_iconst (v := (-1)) hc d_Si_seal_49 rfl ?_
      refine fm_icmp_eq (tgt := 117) hc d_Si_seal_50 rfl (fun _ => ?_) (fun gQ => absurd g1 gQ)
      refine fm_iinc (v := nI (k + 1)) (lv' := [(4, .int (nI (k + 1))), (3, .ref mq), (0, .ref (90 + 124 * j)), (1, .ref 66), (2, .ref 16)]) hc d_Si_seal_117 rfl (nI_1 k) (by decide) rfl ?_
      refine fm_goto (tgt := 32) hc d_Si_seal_120 rfl ?_
      refine fm_dropl (lv' := [(4, .int (nI (k + 1))), (3, .ref mq), (0, .ref (90 + 124 * j)), (1, .ref 66), (2, .ref 16)]) (by simp) ?_
      refine ih _ ⟨?_, fun a ha => ?_, i3, i4⟩
      · show hc_W Mk w (if O2 k = -1 then _ else _)
        rw [if_pos g1]; exact i1
      · show Mk.1 (mm + 3) a = (if ¬ O2 k = -1 ∧ K1 k = K2 k then _ else sl_O (S2, K2, O2, T2, G2, H2, V2, D2) (S1, K1, O1, T1, G1, H1, V1, D1) k) a
        rw [if_neg (fun q => q.1 g1)]; exact i2 a ha
    · by_cases g2 : K1 k = K2 k
      · refine fm_iload hc d_Si_seal_32 rfl ?_
        refine fm_bipush (v := nI 8) hc d_Si_seal_34 rfl ?_
        refine fm_icmp_ge (tgt := 123) hc d_Si_seal_36 rfl (fun gQ => absurd gQ (hnle (a := 8) (c := k) hk (by omega))) (fun _ => ?_)
        refine fm_aload_n hc d_Si_seal_39 rfl rfl ?_
        refine fm_getR (k := 4) (q := mc) hc K_Si d_Si_seal_40 q_339 rfl (by omega) (by omega) (ly_Si hj) (by decide) (by decide) rfl k4 ?_
        refine fm_getR (k := 2) (q := mc + 3) hc K_Me d_Si_seal_43 q_311 rfl (by omega) (by omega) (ly_M0 hC) (by decide) (by decide) rfl w2.2.2.1 ?_
        refine fm_iload hc d_Si_seal_46 rfl ?_
        refine fm_iald (j := k) (len := 8) hc 0 d_Si_seal_48 (by omega) (by omega) (ly_M hC (k := 3) (by omega)) rfl (by omega) (by decide) ?_
        refine fm_top (congrArg Value.int (show Mk.1 (mc + 3) k = O2 k from oc)) ?_
        refine fm_iconst (v := (-1)) hc d_Si_seal_49 rfl ?_
        refine fm_icmp_eq (tgt := 117) hc d_Si_seal_50 rfl (fun gQ => absurd gQ g1) (fun _ => ?_)
        refine fm_aload_n hc d_Si_seal_53 rfl rfl ?_
        refine fm_iload hc d_Si_seal_54 rfl ?_
        refine fm_aload_n hc d_Si_seal_56 rfl rfl ?_
        refine fm_getR (k := 4) (q := mc) hc K_Si d_Si_seal_57 q_339 rfl (by omega) (by omega) (ly_Si hj) (by decide) (by decide) rfl k4 ?_
        refine fm_getR (k := 1) (q := mc + 2) hc K_Me d_Si_seal_60 q_309 rfl (by omega) (by omega) (ly_M0 hC) (by decide) (by decide) rfl w2.2.1 ?_
        refine fm_iload hc d_Si_seal_63 rfl ?_
        refine fm_iald (j := k) (len := 8) hc 0 d_Si_seal_65 (by omega) (by omega) (ly_M hC (k := 2) (by omega)) rfl (by omega) (by decide) ?_
        refine fm_top (congrArg Value.int (show Mk.1 (mc + 2) k = K2 k from kc)) ?_
        refine fm_aload_n hc d_Si_seal_66 rfl rfl ?_
        refine fm_getI (k := 0) hc K_Si d_Si_seal_67 q_332 rfl (by omega) (by omega) (ly_Si hj) (by decide) (by decide) rfl ?_
        refine fm_top (congrArg Value.int (show Mk.1 (90 + 124 * j) 0 = nI j from n0)) ?_
        refine fm_aload_n hc d_Si_seal_70 rfl rfl ?_
        refine fm_getR (k := 4) (q := mc) hc K_Si d_Si_seal_71 q_339 rfl (by omega) (by omega) (ly_Si hj) (by decide) (by decide) rfl k4 ?_
        refine fm_getR (k := 2) (q := mc + 3) hc K_Me d_Si_seal_74 q_311 rfl (by omega) (by omega) (ly_M0 hC) (by decide) (by decide) rfl w2.2.2.1 ?_
        refine fm_iload hc d_Si_seal_77 rfl ?_
        refine fm_iald (j := k) (len := 8) hc 0 d_Si_seal_79 (by omega) (by omega) (ly_M hC (k := 3) (by omega)) rfl (by omega) (by decide) ?_
        refine fm_top (congrArg Value.int (show Mk.1 (mc + 3) k = O2 k from oc)) ?_
        refine fm_callV (av := [.int (nI k), .int (K2 k), .int (nI j), .int (O2 k)]) (rest := []) (ob := 16) (ci := 4) (r0 := ("AgentNet$Wire", F_Wi, 3)) (y := y_Wi_sendReceipt) (bytes := b_Wi_sendReceipt) hc fm_T0_good (fm_EX_st b x) hex q_796 q_2 q_793 q_794 q_795 pd_Wi_sendReceipt (by decide) (by omega) (by decide) (by decide) rfl rfl (c_sendRec (a := k) (v := K2 k) (f := nI j) (t2 := O2 k) hn w4 i1) ⟨rfl, rfl, Nat.le_of_ble_eq_true rfl, Nat.le_of_ble_eq_true rfl⟩ ⟨Nat.le_of_ble_eq_true rfl, Nat.le_of_ble_eq_true rfl⟩ d_Si_seal_80 (Nat.le_of_ble_eq_true rfl) (fun r n2 M2 hp => ?_)
        obtain ⟨rfl, hq1, t1, t2⟩ := hp
        replace hq1 := hq1.symm
        subst hq1
        revert t1 t2
        generalize M2 = Mb
        intro t1 t2
        have v1 := MP_of (by rw [t2.1] : Mb.2.2 = Mk.2.2) w1
        have v2 := MP_of (by rw [t2.1] : Mb.2.2 = Mk.2.2) w2
        refine fm_cnt (z' := (0, 0)) rfl (fm_st (st' := []) rfl ?_)
        refine fm_aload_n hc d_Si_seal_83 rfl rfl ?_
        refine fm_getR (k := 3) (q := mm) hc K_Si d_Si_seal_84 q_337 rfl (by omega) (by omega) (ly_Si hj) (by decide) (by decide) rfl (by rw [t2.1]; exact k3) ?_
        refine fm_getR (k := 1) (q := mm + 2) hc K_Me d_Si_seal_87 q_309 rfl (by omega) (by omega) (ly_M0 hM) (by decide) (by decide) rfl v1.2.1 ?_
        refine fm_iload hc d_Si_seal_90 rfl ?_
        refine fm_iald (j := k) (len := 8) hc 0 d_Si_seal_92 (by omega) (by omega) (ly_M hM (k := 2) (by omega)) rfl (by omega) (by decide) ?_
        refine fm_top (congrArg Value.int (show Mb.1 (mm + 2) k = K1 k from (by rw [t2.2 _ (by omega)]; exact km))) ?_
        refine fm_aload_n hc d_Si_seal_93 rfl rfl ?_
        refine fm_getR (k := 4) (q := mc) hc K_Si d_Si_seal_94 q_339 rfl (by omega) (by omega) (ly_Si hj) (by decide) (by decide) rfl (by rw [t2.1]; exact k4) ?_
        refine fm_getR (k := 1) (q := mc + 2) hc K_Me d_Si_seal_97 q_309 rfl (by omega) (by omega) (ly_M0 hC) (by decide) (by decide) rfl v2.2.1 ?_
        refine fm_iload hc d_Si_seal_100 rfl ?_
        refine fm_iald (j := k) (len := 8) hc 0 d_Si_seal_102 (by omega) (by omega) (ly_M hC (k := 2) (by omega)) rfl (by omega) (by decide) ?_
        refine fm_top (congrArg Value.int (show Mb.1 (mc + 2) k = K2 k from (by rw [t2.2 _ (by omega)]; exact kc))) ?_
        refine fm_icmp_ne (tgt := 117) hc d_Si_seal_103 rfl (fun gQ => absurd g2 gQ) (fun _ => ?_)
        refine fm_aload_n hc d_Si_seal_106 rfl rfl ?_
        refine fm_getR (k := 3) (q := mm) hc K_Si d_Si_seal_107 q_337 rfl (by omega) (by omega) (ly_Si hj) (by decide) (by decide) rfl (by rw [t2.1]; exact k3) ?_
        refine fm_getR (k := 2) (q := mm + 3) hc K_Me d_Si_seal_110 q_311 rfl (by omega) (by omega) (ly_M0 hM) (by decide) (by decide) rfl v1.2.2.1 ?_
        refine fm_iload hc d_Si_seal_113 rfl ?_
        refine fm_iconst (v := (-1)) hc d_Si_seal_115 rfl ?_
        refine fm_iast (j := k) (len := 8) (v := (-1)) hc 0 d_Si_seal_116 (by omega) (by omega) (ly_M hM (k := 3) (by omega)) rfl (by omega) (by decide) ?_
        refine fm_iinc (v := nI (k + 1)) (lv' := [(4, .int (nI (k + 1))), (3, .ref mq), (0, .ref (90 + 124 * j)), (1, .ref 66), (2, .ref 16)]) hc d_Si_seal_117 rfl (nI_1 k) (by decide) rfl ?_
        refine fm_goto (tgt := 32) hc d_Si_seal_120 rfl ?_
        refine fm_dropl (lv' := [(4, .int (nI (k + 1))), (3, .ref mq), (0, .ref (90 + 124 * j)), (1, .ref 66), (2, .ref 16)]) (by simp) ?_
        refine ih _ ⟨?_, fun a ha => ?_, t2.1.trans i3, fun q a b => (funext fun i => p1_other a).trans ((t2.2 q b).trans (i4 q a b))⟩
        · show hc_W _ w (if O2 k = -1 then _ else _)
          rw [if_neg g1]
          exact hcW_of (wiP_of (by rw [t2.1] : Mb.2.2 = Mk.2.2) w4) (fun q a b => funext fun i => p1_other (by omega)) t1
        · show (fm_put1 Mb (mm + 3) k (-1)).1 (mm + 3) a = (if ¬ O2 k = -1 ∧ K1 k = K2 k then va_up (sl_O (S2, K2, O2, T2, G2, H2, V2, D2) (S1, K1, O1, T1, G1, H1, V1, D1) k) k (-1) else _) a
          rw [if_pos ⟨g1, g2⟩]
          by_cases e : a = k
          · subst e; rw [p1_same, fm_upS]
          · rw [p1_at e, fm_upN e, t2.2 _ (by omega)]; exact i2 a ha
      · refine fm_iload hc d_Si_seal_32 rfl ?_
        refine fm_bipush (v := nI 8) hc d_Si_seal_34 rfl ?_
        refine fm_icmp_ge (tgt := 123) hc d_Si_seal_36 rfl (fun gQ => absurd gQ (hnle (a := 8) (c := k) hk (by omega))) (fun _ => ?_)
        refine fm_aload_n hc d_Si_seal_39 rfl rfl ?_
        refine fm_getR (k := 4) (q := mc) hc K_Si d_Si_seal_40 q_339 rfl (by omega) (by omega) (ly_Si hj) (by decide) (by decide) rfl k4 ?_
        refine fm_getR (k := 2) (q := mc + 3) hc K_Me d_Si_seal_43 q_311 rfl (by omega) (by omega) (ly_M0 hC) (by decide) (by decide) rfl w2.2.2.1 ?_
        refine fm_iload hc d_Si_seal_46 rfl ?_
        refine fm_iald (j := k) (len := 8) hc 0 d_Si_seal_48 (by omega) (by omega) (ly_M hC (k := 3) (by omega)) rfl (by omega) (by decide) ?_
        refine fm_top (congrArg Value.int (show Mk.1 (mc + 3) k = O2 k from oc)) ?_
        refine fm_iconst (v := (-1)) hc d_Si_seal_49 rfl ?_
        refine fm_icmp_eq (tgt := 117) hc d_Si_seal_50 rfl (fun gQ => absurd gQ g1) (fun _ => ?_)
        refine fm_aload_n hc d_Si_seal_53 rfl rfl ?_
        refine fm_iload hc d_Si_seal_54 rfl ?_
        refine fm_aload_n hc d_Si_seal_56 rfl rfl ?_
        refine fm_getR (k := 4) (q := mc) hc K_Si d_Si_seal_57 q_339 rfl (by omega) (by omega) (ly_Si hj) (by decide) (by decide) rfl k4 ?_
        refine fm_getR (k := 1) (q := mc + 2) hc K_Me d_Si_seal_60 q_309 rfl (by omega) (by omega) (ly_M0 hC) (by decide) (by decide) rfl w2.2.1 ?_
        refine fm_iload hc d_Si_seal_63 rfl ?_
        refine fm_iald (j := k) (len := 8) hc 0 d_Si_seal_65 (by omega) (by omega) (ly_M hC (k := 2) (by omega)) rfl (by omega) (by decide) ?_
        refine fm_top (congrArg Value.int (show Mk.1 (mc + 2) k = K2 k from kc)) ?_
        refine fm_aload_n hc d_Si_seal_66 rfl rfl ?_
        refine fm_getI (k := 0) hc K_Si d_Si_seal_67 q_332 rfl (by omega) (by omega) (ly_Si hj) (by decide) (by decide) rfl ?_
        refine fm_top (congrArg Value.int (show Mk.1 (90 + 124 * j) 0 = nI j from n0)) ?_
        refine fm_aload_n hc d_Si_seal_70 rfl rfl ?_
        refine fm_getR (k := 4) (q := mc) hc K_Si d_Si_seal_71 q_339 rfl (by omega) (by omega) (ly_Si hj) (by decide) (by decide) rfl k4 ?_
        refine fm_getR (k := 2) (q := mc + 3) hc K_Me d_Si_seal_74 q_311 rfl (by omega) (by omega) (ly_M0 hC) (by decide) (by decide) rfl w2.2.2.1 ?_
        refine fm_iload hc d_Si_seal_77 rfl ?_
        refine fm_iald (j := k) (len := 8) hc 0 d_Si_seal_79 (by omega) (by omega) (ly_M hC (k := 3) (by omega)) rfl (by omega) (by decide) ?_
        refine fm_top (congrArg Value.int (show Mk.1 (mc + 3) k = O2 k from oc)) ?_
        refine fm_callV (av := [.int (nI k), .int (K2 k), .int (nI j), .int (O2 k)]) (rest := []) (ob := 16) (ci := 4) (r0 := ("AgentNet$Wire", F_Wi, 3)) (y := y_Wi_sendReceipt) (bytes := b_Wi_sendReceipt) hc fm_T0_good (fm_EX_st b x) hex q_796 q_2 q_793 q_794 q_795 pd_Wi_sendReceipt (by decide) (by omega) (by decide) (by decide) rfl rfl (c_sendRec (a := k) (v := K2 k) (f := nI j) (t2 := O2 k) hn w4 i1) ⟨rfl, rfl, Nat.le_of_ble_eq_true rfl, Nat.le_of_ble_eq_true rfl⟩ ⟨Nat.le_of_ble_eq_true rfl, Nat.le_of_ble_eq_true rfl⟩ d_Si_seal_80 (Nat.le_of_ble_eq_true rfl) (fun r n2 M2 hp => ?_)
        obtain ⟨rfl, hq1, t1, t2⟩ := hp
        replace hq1 := hq1.symm
        subst hq1
        revert t1 t2
        generalize M2 = Mb
        intro t1 t2
        have v1 := MP_of (by rw [t2.1] : Mb.2.2 = Mk.2.2) w1
        have v2 := MP_of (by rw [t2.1] : Mb.2.2 = Mk.2.2) w2
        refine fm_cnt (z' := (0, 0)) rfl (fm_st (st' := []) rfl ?_)
        refine fm_aload_n hc d_Si_seal_83 rfl rfl ?_
        refine fm_getR (k := 3) (q := mm) hc K_Si d_Si_seal_84 q_337 rfl (by omega) (by omega) (ly_Si hj) (by decide) (by decide) rfl (by rw [t2.1]; exact k3) ?_
        refine fm_getR (k := 1) (q := mm + 2) hc K_Me d_Si_seal_87 q_309 rfl (by omega) (by omega) (ly_M0 hM) (by decide) (by decide) rfl v1.2.1 ?_
        refine fm_iload hc d_Si_seal_90 rfl ?_
        refine fm_iald (j := k) (len := 8) hc 0 d_Si_seal_92 (by omega) (by omega) (ly_M hM (k := 2) (by omega)) rfl (by omega) (by decide) ?_
        refine fm_top (congrArg Value.int (show Mb.1 (mm + 2) k = K1 k from (by rw [t2.2 _ (by omega)]; exact km))) ?_
        refine fm_aload_n hc d_Si_seal_93 rfl rfl ?_
        refine fm_getR (k := 4) (q := mc) hc K_Si d_Si_seal_94 q_339 rfl (by omega) (by omega) (ly_Si hj) (by decide) (by decide) rfl (by rw [t2.1]; exact k4) ?_
        refine fm_getR (k := 1) (q := mc + 2) hc K_Me d_Si_seal_97 q_309 rfl (by omega) (by omega) (ly_M0 hC) (by decide) (by decide) rfl v2.2.1 ?_
        refine fm_iload hc d_Si_seal_100 rfl ?_
        refine fm_iald (j := k) (len := 8) hc 0 d_Si_seal_102 (by omega) (by omega) (ly_M hC (k := 2) (by omega)) rfl (by omega) (by decide) ?_
        refine fm_top (congrArg Value.int (show Mb.1 (mc + 2) k = K2 k from (by rw [t2.2 _ (by omega)]; exact kc))) ?_
        refine fm_icmp_ne (tgt := 117) hc d_Si_seal_103 rfl (fun _ => ?_) (fun gQ => absurd gQ g2)
        refine fm_iinc (v := nI (k + 1)) (lv' := [(4, .int (nI (k + 1))), (3, .ref mq), (0, .ref (90 + 124 * j)), (1, .ref 66), (2, .ref 16)]) hc d_Si_seal_117 rfl (nI_1 k) (by decide) rfl ?_
        refine fm_goto (tgt := 32) hc d_Si_seal_120 rfl ?_
        refine fm_dropl (lv' := [(4, .int (nI (k + 1))), (3, .ref mq), (0, .ref (90 + 124 * j)), (1, .ref 66), (2, .ref 16)]) (by simp) ?_
        refine ih _ ⟨?_, fun a ha => ?_, t2.1.trans i3, fun q a b => (t2.2 q b).trans (i4 q a b)⟩
        · show hc_W _ w (if O2 k = -1 then _ else _)
          rw [if_neg g1]
          exact t1
        · show Mb.1 (mm + 3) a = (if ¬ O2 k = -1 ∧ K1 k = K2 k then _ else sl_O (S2, K2, O2, T2, G2, H2, V2, D2) (S1, K1, O1, T1, G1, H1, V1, D1) k) a
          rw [if_neg (fun q => g2 q.2), t2.2 _ (by omega)]; exact i2 a ha
  · obtain ⟨i1, i2, i3, i4⟩ := hI
    have ek : ∀ q, q ≠ mm + 3 → q ≠ 67 → q ≠ 68 → (q < 16 ∨ 60 ≤ q) → Mk.1 q = M.1 q := fun q a b c d => (i4 q a d).trans (ea q b c)
    have e21 : Mk.2.1 = M.2.1 := by rw [i3]; exact eb
    have c1 : hc_M Mk mc (S2, K2, O2, T2, G2, H2, V2, D2) := hcM_of (fun q a b => ek q (by omega) (by omega) (by omega) (by omega)) (fun q _ _ => by rw [e21]) g
    have c2 : hc_M Mk mm (am_ow (S1, K1, O1, T1, G1, H1, V1, D1) (sl_O (S2, K2, O2, T2, G2, H2, V2, D2) (S1, K1, O1, T1, G1, H1, V1, D1) 8)) := by
      obtain ⟨h1, h2, h3, h4, h5, h6, h7⟩ := h
      refine ⟨fun a ha => by rw [ek _ (by omega) (by omega) (by omega) (by omega)]; exact h1 a ha, fun a ha => by rw [ek _ (by omega) (by omega) (by omega) (by omega)]; exact h2 a ha, i2, fun a ha => by rw [ek _ (by omega) (by omega) (by omega) (by omega)]; exact h4 a ha, fun a ha => by rw [ek _ (by omega) (by omega) (by omega) (by omega)]; exact h5 a ha, fun a i ha hi => by rw [ek _ (by omega) (by omega) (by omega) (by omega)]; exact h6 a i ha hi, fun a ha hs => ?_⟩
      have h := h7 a ha hs
      unfold hc_A at *
      rw [ek _ (by omega) (by omega) (by omega) (by omega), e21]
      exact h
    have c3 : hc_L Mk 66 (sr_C C D2) (sr_W C W V2) := fun a ha => by
      have q := r1 a ha
      rw [← i4 67 (by omega) (by omega), ← i4 68 (by omega) (by omega)] at q
      exact q
    refine fm_iload hc d_Si_seal_32 rfl ?_
    refine fm_bipush (v := nI 8) hc d_Si_seal_34 rfl ?_
    refine fm_icmp_ge (tgt := 123) hc d_Si_seal_36 rfl (fun _ => ?_) (fun gQ => absurd (by decide) gQ)
    exact fm_vret hc hr d_Si_seal_123 (Nat.le_refl _) (Nat.le_refl _) ⟨rfl, rfl, c2, c1, i1, c3, by rw [i3, r2]; exact x4, by rw [i3, r2]; exact x5, fun q hq => by rw [i3, r2]; exact x2 q hq, fun i a b => by rw [i3, r2]; exact x9 i a b, e21, ek⟩
theorem x_write_less {l : Launch} {b : Nat} {x : Nat → Nat} {D : va_G} {dA : Nat → ClassId} (htr : l.stackTraces = false) {j lf c0 n : Nat} {M : fm_M} (hn : 586 ≤ n) (hj : j < 4) (hA : fm_AP M) (hu : ¬ M.1 (90 + 124 * j) 1 = 0) (hlf : M.1 (90 + 124 * j) 2 = nI lf) (hlf1 : 1 ≤ lf) (hlf9 : lf ≤ 9) (hc1 : 1 ≤ c0) (hcl : c0 < lf) : MetFree l y_An_write (headSpec (Cond.code y_An_write b_An_write 4 (some .int) :: fm_T0) ({ frames := 10, cells := 1, slots := 6, locals := 400 })) (fm_Pc fm_lay fm_nf fm_fk fm_cl b x D dA (fm_tys dA) (fm_EX b x) false [.ref 8, .int (nI j), .int (nI c0)] n M) (fun _ _ _ _ _ => True) (fx_Q fm_lay fm_nf fm_fk fm_cl b x D dA (fun r n' M' => r = some (.int (nI (lf - c0))) ∧ n' = n ∧ M' = fm_put1 M (90 + 124 * j) 2 (nI (lf - c0))) (fun _ _ _ => False) 1 6) := by
  refine fx_enter (by decide) (Nat.le_of_ble_eq_true rfl) ?_
  intro p e s m args below meth c9 hc hr hnm hex htg htab
  refine fm_iload_n hc d_An_write_0 rfl rfl ?_
  refine fm_callS (av := [.int (nI j)]) (rest := []) (y := y_An_isHost) (bytes := b_An_isHost) hc fm_T0_good (fm_EX_st b x) hex q_397 q_1 q_395 q_396 pd_An_isHost (c_An_isHost_ok (in4_of hj)) ⟨rfl, rfl, Nat.le_of_ble_eq_true rfl, Nat.le_of_ble_eq_true rfl⟩ ⟨Nat.le_of_ble_eq_true rfl, Nat.le_of_ble_eq_true rfl⟩ d_An_write_1 (Nat.le_of_ble_eq_true rfl) (fun r n2 M2 hp => ?_)
  obtain ⟨rfl, hq1, hq2⟩ := hp
  replace hq1 := hq1.symm
  replace hq2 := hq2.symm
  subst hq1 hq2
  refine fm_cnt (z' := (0, 0)) rfl (fm_st (st' := [.int (nI 1)]) rfl ?_)
  refine fm_if_eq (tgt := 12) hc d_An_write_4 rfl (fun gQ => absurd gQ (by decide)) (fun _ => ?_)
  refine fm_iload_n hc d_An_write_7 rfl rfl ?_
  refine fm_iconst (v := nI 1) hc d_An_write_8 rfl ?_
  refine fm_icmp_ge (tgt := 20) hc d_An_write_9 rfl (fun _ => ?_) (fun gQ => absurd (nI_le (by omega) (by omega)) gQ)
  refine fm_aload_n hc d_An_write_20 rfl rfl ?_
  refine fm_getR (k := 2) (q := 15) hc K_An d_An_write_21 q_357 rfl (by decide) (by omega) (by decide) (by decide) (by decide) rfl (ap_2 hA) ?_
  refine fm_iload_n hc d_An_write_24 rfl rfl ?_
  refine fm_aald (q := 90 + 124 * j) (j := j) (len := 4) hc 5 d_An_write_25 (by decide) (by omega) (by decide) (by decide) rfl (by omega) (by decide) (ap_site hA hj) ?_
  refine fm_astore_n (lv' := [(3, .ref (90 + 124 * j)), (0, .ref 8), (1, .int (nI j)), (2, .int (nI c0))]) hc d_An_write_26 rfl (by decide) rfl ?_
  refine fm_aload_n hc d_An_write_27 rfl rfl ?_
  refine fm_getI (k := 1) hc K_Si d_An_write_28 q_334 rfl (by omega) (by omega) (ly_Si hj) (by decide) (by decide) rfl ?_
  refine fm_if_eq (tgt := 41) hc d_An_write_31 rfl (fun gQ => absurd gQ hu) (fun _ => ?_)
  refine fm_aload_n hc d_An_write_34 rfl rfl ?_
  refine fm_getI (k := 2) hc K_Si d_An_write_35 q_336 rfl (by omega) (by omega) (ly_Si hj) (by decide) (by decide) rfl ?_
  refine fm_top (congrArg Value.int (show M.1 (90 + 124 * j) 2 = nI lf from hlf)) ?_
  refine fm_if_ne (tgt := 49) hc d_An_write_38 rfl (fun _ => ?_) (fun gQ => absurd gQ (fun q => absurd (nI_inj (c := 0) (by omega) (by decide) q) (by omega)))
  refine fm_aload_n hc d_An_write_49 rfl rfl ?_
  refine fm_dup hc d_An_write_50 rfl ?_
  refine fm_getI (k := 2) hc K_Si d_An_write_51 q_336 rfl (by omega) (by omega) (ly_Si hj) (by decide) (by decide) rfl ?_
  refine fm_top (congrArg Value.int (show M.1 (90 + 124 * j) 2 = nI lf from hlf)) ?_
  refine fm_iload_n hc d_An_write_54 rfl rfl ?_
  refine fm_aload_n hc d_An_write_55 rfl rfl ?_
  refine fm_getI (k := 2) hc K_Si d_An_write_56 q_336 rfl (by omega) (by omega) (ly_Si hj) (by decide) (by decide) rfl ?_
  refine fm_top (congrArg Value.int (show M.1 (90 + 124 * j) 2 = nI lf from hlf)) ?_
  refine fm_mmin hc q_781 q_782 q_19 q_min d_An_write_59 (Nat.le_of_ble_eq_true rfl) (Nat.le_of_ble_eq_true rfl) (Nat.le_of_ble_eq_true rfl) (Nat.le_of_ble_eq_true rfl) ?_
  refine fm_top (congrArg Value.int (if_neg (hnlt (a := lf) (c := c0) (by omega) (by omega)))) ?_
  refine fm_isub hc d_An_write_62 ?_
  refine fm_top (congrArg Value.int (pk_sub (a := lf) (b := c0) (by omega))) ?_
  refine fm_putI (k := 2) (v := nI (lf - c0)) hc K_Si d_An_write_63 q_336 rfl (by omega) (by omega) (ly_Si hj) (by decide) (by decide) rfl rfl rfl rfl ?_
  refine fm_aload_n hc d_An_write_66 rfl rfl ?_
  refine fm_getI (k := 2) hc K_Si d_An_write_67 q_336 rfl (by omega) (by omega) (ly_Si hj) (by decide) (by decide) rfl ?_
  refine fm_top (congrArg Value.int (show (fm_put1 M (90 + 124 * j) 2 (nI (lf - c0))).1 (90 + 124 * j) 2 = nI (lf - c0) from (p1_same _ _ _ _))) ?_
  refine fm_if_ne (tgt := 85) hc d_An_write_70 rfl (fun _ => ?_) (fun gQ => absurd gQ (fun q => absurd (nI_inj (c := 0) (by omega) (by decide) q) (by omega)))
  refine fm_aload_n hc d_An_write_85 rfl rfl ?_
  refine fm_getI (k := 2) hc K_Si d_An_write_86 q_336 rfl (by omega) (by omega) (ly_Si hj) (by decide) (by decide) rfl ?_
  refine fm_top (congrArg Value.int (show (fm_put1 M (90 + 124 * j) 2 (nI (lf - c0))).1 (90 + 124 * j) 2 = nI (lf - c0) from (p1_same _ _ _ _))) ?_
  exact fx_ret (fm_iret hc hr d_An_write_89 (Nat.le_of_ble_eq_true rfl) (Nat.le_of_ble_eq_true rfl) ⟨rfl, rfl, rfl⟩)
theorem x_write_seal {l : Launch} {b : Nat} {x : Nat → Nat} {D : va_G} {dA : Nat → ClassId} (htr : l.stackTraces = false) {j mm mc mq lf n : Nat} {w : Nat → Nat} {m0 s0 : am_T} {ms : List mg_T} {C : Nat → Nat} {W : Nat → Nat → Int32} {Pb : Nat → Nat → Bool} {M : fm_M} {v : Int32} (hn : 586 ≤ n) (hj : j < 4) (hM : fm_isM mm) (hC : fm_isM mc) (hne : mm ≠ mc) (hs3 : M.2.2 (90 + 124 * j) 3 = some mm) (hs4 : M.2.2 (90 + 124 * j) 4 = some mq) (hs5 : M.2.2 (90 + 124 * j) 5 = some mc) (h0 : M.1 (90 + 124 * j) 0 = nI j) (hP : fm_MP M mm) (hPc : fm_MP M mc) (hy : sy_P M 66) (hpw : wi_P M w) (h : hc_M M mm m0) (g : hc_M M mc s0) (hw : hc_W M w ms) (hl : hc_L M 66 C W) (hs : sr_ok C s0.2.2.2.2.2.2.2 s0.2.2.2.2.2.1 Pb) (hA : fm_AP M) (hu : ¬ M.1 (90 + 124 * j) 1 = 0) (hlf : M.1 (90 + 124 * j) 2 = nI lf) (hlf1 : 1 ≤ lf) (hlf9 : lf ≤ 9) (hv1 : nI 1 ≤ v) (hvl : ¬ v < nI lf) : MetFree l y_An_write (headSpec (Cond.code y_An_write b_An_write 4 (some .int) :: fm_T0) ({ frames := 10, cells := 1, slots := 6, locals := 400 })) (fm_Pc fm_lay fm_nf fm_fk fm_cl b x D dA (fm_tys dA) (fm_EX b x) false [.ref 8, .int (nI j), .int v] n M) (fun _ _ _ _ _ => True) (fx_Q fm_lay fm_nf fm_fk fm_cl b x D dA (fun r n' M' => r = some (.int (nI 0)) ∧ n' = n ∧ hc_M M' mm (am_ow m0 (sl_O s0 m0 8)) ∧ hc_M M' mc s0 ∧ hc_W M' w (sl_W j s0 ms 8) ∧ hc_L M' 66 (sr_C C s0.2.2.2.2.2.2.2) (sr_W C W s0.2.2.2.2.2.2.1) ∧ M'.2.2 (90 + 124 * j) 4 = some mc ∧ M'.2.2 (90 + 124 * j) 5 = some mq ∧ (∀ q, q ≠ 90 + 124 * j → M'.2.2 q = M.2.2 q) ∧ (∀ i, i ≠ 4 → i ≠ 5 → M'.2.2 (90 + 124 * j) i = M.2.2 (90 + 124 * j) i) ∧ M'.2.1 = M.2.1 ∧ M'.1 (90 + 124 * j) 2 = nI 0 ∧ (∀ i, i ≠ 2 → M'.1 (90 + 124 * j) i = M.1 (90 + 124 * j) i) ∧ (∀ q, q ≠ mm + 3 → q ≠ 67 → q ≠ 68 → q ≠ 90 + 124 * j → (q < 16 ∨ 60 ≤ q) → M'.1 q = M.1 q)) (fun _ _ _ => False) 1 6) := by
  refine fx_enter (by decide) (Nat.le_of_ble_eq_true rfl) ?_
  intro p e s m args below meth c9 hc hr hnm hex htg htab
  have hlo := isM_lo hM
  have hlc := isM_lo hC
  have hsm := isM_site (j := j) hM
  have hsc := isM_site (j := j) hC
  have hmin : (if nI lf < v then nI lf else v) = nI lf := by
    split
    · rfl
    · rename_i q; exact Int32.le_antisymm (Int32.not_lt.mp q) (Int32.not_lt.mp hvl)
  have a1 : hc_M (fm_put1 M (90 + 124 * j) 2 (nI 0)) mm m0 := hcM_of (fun q a b => funext fun i => p1_other (by omega)) (fun _ _ _ => rfl) h
  have a2 : hc_M (fm_put1 M (90 + 124 * j) 2 (nI 0)) mc s0 := hcM_of (fun q a b => funext fun i => p1_other (by omega)) (fun _ _ _ => rfl) g
  have a3 : hc_W (fm_put1 M (90 + 124 * j) 2 (nI 0)) w ms := hcW_of hpw (fun q a b => funext fun i => p1_other (by omega)) hw
  have a4 : hc_L (fm_put1 M (90 + 124 * j) 2 (nI 0)) 66 C W := fun a ha => by
    have q := hl a ha
    exact ⟨q.1, (p1_other (by omega)).trans q.2.1, fun i hi => (p1_other (by omega)).trans (q.2.2 i hi)⟩
  refine fm_iload_n hc d_An_write_0 rfl rfl ?_
  refine fm_callS (av := [.int (nI j)]) (rest := []) (y := y_An_isHost) (bytes := b_An_isHost) hc fm_T0_good (fm_EX_st b x) hex q_397 q_1 q_395 q_396 pd_An_isHost (c_An_isHost_ok (in4_of hj)) ⟨rfl, rfl, Nat.le_of_ble_eq_true rfl, Nat.le_of_ble_eq_true rfl⟩ ⟨Nat.le_of_ble_eq_true rfl, Nat.le_of_ble_eq_true rfl⟩ d_An_write_1 (Nat.le_of_ble_eq_true rfl) (fun r n2 M2 hp => ?_)
  obtain ⟨rfl, hq1, hq2⟩ := hp
  replace hq1 := hq1.symm
  replace hq2 := hq2.symm
  subst hq1 hq2
  refine fm_cnt (z' := (0, 0)) rfl (fm_st (st' := [.int (nI 1)]) rfl ?_)
  refine fm_if_eq (tgt := 12) hc d_An_write_4 rfl (fun gQ => absurd gQ (by decide)) (fun _ => ?_)
  refine fm_iload_n hc d_An_write_7 rfl rfl ?_
  refine fm_iconst (v := nI 1) hc d_An_write_8 rfl ?_
  refine fm_icmp_ge (tgt := 20) hc d_An_write_9 rfl (fun _ => ?_) (fun gQ => absurd hv1 gQ)
  refine fm_aload_n hc d_An_write_20 rfl rfl ?_
  refine fm_getR (k := 2) (q := 15) hc K_An d_An_write_21 q_357 rfl (by decide) (by omega) (by decide) (by decide) (by decide) rfl (ap_2 hA) ?_
  refine fm_iload_n hc d_An_write_24 rfl rfl ?_
  refine fm_aald (q := 90 + 124 * j) (j := j) (len := 4) hc 5 d_An_write_25 (by decide) (by omega) (by decide) (by decide) rfl (by omega) (by decide) (ap_site hA hj) ?_
  refine fm_astore_n (lv' := [(3, .ref (90 + 124 * j)), (0, .ref 8), (1, .int (nI j)), (2, .int v)]) hc d_An_write_26 rfl (by decide) rfl ?_
  refine fm_aload_n hc d_An_write_27 rfl rfl ?_
  refine fm_getI (k := 1) hc K_Si d_An_write_28 q_334 rfl (by omega) (by omega) (ly_Si hj) (by decide) (by decide) rfl ?_
  refine fm_if_eq (tgt := 41) hc d_An_write_31 rfl (fun gQ => absurd gQ hu) (fun _ => ?_)
  refine fm_aload_n hc d_An_write_34 rfl rfl ?_
  refine fm_getI (k := 2) hc K_Si d_An_write_35 q_336 rfl (by omega) (by omega) (ly_Si hj) (by decide) (by decide) rfl ?_
  refine fm_top (congrArg Value.int (show M.1 (90 + 124 * j) 2 = nI lf from hlf)) ?_
  refine fm_if_ne (tgt := 49) hc d_An_write_38 rfl (fun _ => ?_) (fun gQ => absurd gQ (fun q => absurd (nI_inj (c := 0) (by omega) (by decide) q) (by omega)))
  refine fm_aload_n hc d_An_write_49 rfl rfl ?_
  refine fm_dup hc d_An_write_50 rfl ?_
  refine fm_getI (k := 2) hc K_Si d_An_write_51 q_336 rfl (by omega) (by omega) (ly_Si hj) (by decide) (by decide) rfl ?_
  refine fm_top (congrArg Value.int (show M.1 (90 + 124 * j) 2 = nI lf from hlf)) ?_
  refine fm_iload_n hc d_An_write_54 rfl rfl ?_
  refine fm_aload_n hc d_An_write_55 rfl rfl ?_
  refine fm_getI (k := 2) hc K_Si d_An_write_56 q_336 rfl (by omega) (by omega) (ly_Si hj) (by decide) (by decide) rfl ?_
  refine fm_top (congrArg Value.int (show M.1 (90 + 124 * j) 2 = nI lf from hlf)) ?_
  refine fm_mmin hc q_781 q_782 q_19 q_min d_An_write_59 (Nat.le_of_ble_eq_true rfl) (Nat.le_of_ble_eq_true rfl) (Nat.le_of_ble_eq_true rfl) (Nat.le_of_ble_eq_true rfl) ?_
  refine fm_top (congrArg Value.int hmin) ?_
  refine fm_isub hc d_An_write_62 ?_
  refine fm_top (congrArg Value.int (pk_sub (a := lf) (b := lf) (by omega))) ?_
  refine fm_putI (k := 2) (v := nI (lf - lf)) hc K_Si d_An_write_63 q_336 rfl (by omega) (by omega) (ly_Si hj) (by decide) (by decide) rfl rfl rfl rfl ?_
  refine fm_mem (M' := fm_put1 M (90 + 124 * j) 2 (nI 0)) rfl (by rw [Nat.sub_self]) ?_
  refine fm_aload_n hc d_An_write_66 rfl rfl ?_
  refine fm_getI (k := 2) hc K_Si d_An_write_67 q_336 rfl (by omega) (by omega) (ly_Si hj) (by decide) (by decide) rfl ?_
  refine fm_top (congrArg Value.int (show (fm_put1 M (90 + 124 * j) 2 (nI 0)).1 (90 + 124 * j) 2 = nI 0 from (p1_same _ _ _ _))) ?_
  refine fm_if_ne (tgt := 85) hc d_An_write_70 rfl (fun gQ => absurd (by decide) gQ) (fun _ => ?_)
  refine fm_aload_n hc d_An_write_73 rfl rfl ?_
  refine fm_aload_n hc d_An_write_74 rfl rfl ?_
  refine fm_getR (k := 5) (q := 66) hc K_An d_An_write_75 q_360 rfl (by decide) (by omega) (by decide) (by decide) (by decide) rfl (ap_5 hA) ?_
  refine fm_aload_n hc d_An_write_78 rfl rfl ?_
  refine fm_getR (k := 3) (q := 16) hc K_An d_An_write_79 q_358 rfl (by decide) (by omega) (by decide) (by decide) (by decide) rfl (ap_3 hA) ?_
  refine fm_callV (av := [.ref 66, .ref 16]) (rest := []) (ob := 90 + 124 * j) (ci := 8) (r0 := ("AgentNet$Site", F_Si, 6)) (y := y_Si_seal) (bytes := b_Si_seal) hc fm_T0_good (fm_EX_st b x) hex q_787 q_10 q_784 q_785 q_786 pd_Si_seal (by omega) (by omega) (ly_Si hj) (by decide) rfl rfl (c_seal (M := fm_put1 M (90 + 124 * j) 2 (nI 0)) hn hj hM hC hne hs3 hs4 hs5 ((p1_at (by decide)).trans h0) hP hPc hy hpw a1 a2 a3 a4 hs) ⟨rfl, rfl, Nat.le_of_ble_eq_true rfl, Nat.le_of_ble_eq_true rfl⟩ ⟨Nat.le_of_ble_eq_true rfl, Nat.le_of_ble_eq_true rfl⟩ d_An_write_82 (Nat.le_of_ble_eq_true rfl) (fun r n2 M2 hp => ?_)
  obtain ⟨rfl, hq1, r1, r2, r3, r4, r5, r6, r7, r8, r9, r10⟩ := hp
  replace hq1 := hq1.symm
  subst hq1
  revert r1 r2 r3 r4 r5 r6 r7 r8 r9 r10
  generalize M2 = Mz
  intro r1 r2 r3 r4 r5 r6 r7 r8 r9 r10
  refine fm_cnt (z' := (0, 0)) rfl (fm_st (st' := []) rfl ?_)
  refine fm_aload_n hc d_An_write_85 rfl rfl ?_
  refine fm_getI (k := 2) hc K_Si d_An_write_86 q_336 rfl (by omega) (by omega) (ly_Si hj) (by decide) (by decide) rfl ?_
  refine fm_top (congrArg Value.int (show Mz.1 (90 + 124 * j) 2 = nI 0 from (by rw [r10 _ (by omega) (by omega) (by omega) (by omega)]; exact p1_same _ _ _ _))) ?_
  exact fx_ret (fm_iret hc hr d_An_write_89 (Nat.le_of_ble_eq_true rfl) (Nat.le_of_ble_eq_true rfl) ⟨rfl, rfl, r1, r2, r3, r4, r5, r6, r7, r8, r9, by rw [r10 _ (by omega) (by omega) (by omega) (by omega)]; exact p1_same _ _ _ _, fun i hi => by rw [r10 _ (by omega) (by omega) (by omega) (by omega)]; exact p1_at hi, fun q c1 c2 c3 c4 c5 => (r10 q c1 c2 c3 c5).trans (funext fun i => p1_other c4)⟩)
