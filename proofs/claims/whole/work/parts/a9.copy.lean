/-! THE CLASS: a memory's copy; checkpoint, start entire -/
theorem cpy1_in {M : fm_M} {a c d k : Nat} (h : k < d) : (fm_cpy1 M a c 0 0 d).1 c k = M.1 a k := by
  show va_up M.1 c (va_cpy (M.1 a) (M.1 c) 0 0 d) c k = _
  rw [fm_upS, pk_cpy_in (Nat.zero_le _) (by omega), Nat.sub_zero, Nat.zero_add]
theorem cpy1_ot {M : fm_M} {a c d r : Nat} (h : r ≠ c) : (fm_cpy1 M a c 0 0 d).1 r = M.1 r := fm_upN h
theorem c_Sycopy {l : Launch} {b : Nat} {x : Nat → Nat} {D : va_G} {dA : Nat → ClassId} {mm mo : Nat} {n : Nat} {M : fm_M} (hn : 586 ≤ n) (hM : fm_isM mm) (hMo : fm_isM mo) (hP : fm_MP M mm) (hPo : fm_MP M mo) : Met l y_Sy_copyFrom (Cond.code y_Sy_copyFrom b_Sy_copyFrom 2 none :: fm_T0) ({ frames := 1, cells := 0, slots := 0, locals := 40 }) (fm_Pc fm_lay fm_nf fm_fk fm_cl b x D dA (fm_tys dA) (fm_EX b x) false [.ref (mm + 6), .ref (mo + 6)] n M) (fm_Qc fm_lay fm_nf fm_fk fm_cl b x D dA (fun r n' M' => r = none ∧ n' = n ∧ M' = fm_cpy1 (fm_cpy1 M (mo + 7) (mm + 7) 0 0 8) (mo + 8) (mm + 8) 0 0 128)) 0 0 (fm_A b) := by
  refine fm_enter (by decide) (Nat.le_of_ble_eq_true rfl) ?_
  intro p e s m args below meth c9 hc hr hnm hex htg
  have hlo := isM_lo hM
  have hloo := isM_lo hMo
  refine fm_aload_n hc d_Sy_copyFrom_0 rfl rfl ?_
  refine fm_getR (k := 0) (q := mo + 7) hc K_Sy d_Sy_copyFrom_1 q_150 rfl (by omega) (by omega) (congrArg Prod.fst (ly_M hMo (k := 6) (by omega))) (by decide) (by decide) rfl hPo.2.2.2.2.2.2.1 ?_
  refine fm_iconst (v := nI 0) hc d_Sy_copyFrom_4 rfl ?_
  refine fm_aload_n hc d_Sy_copyFrom_5 rfl rfl ?_
  refine fm_getR (k := 0) (q := mm + 7) hc K_Sy d_Sy_copyFrom_6 q_150 rfl (by omega) (by omega) (congrArg Prod.fst (ly_M hM (k := 6) (by omega))) (by decide) (by decide) rfl hP.2.2.2.2.2.2.1 ?_
  refine fm_iconst (v := nI 0) hc d_Sy_copyFrom_9 rfl ?_
  refine fm_bipush (v := nI 8) hc d_Sy_copyFrom_10 rfl ?_
  refine fm_cpyI (o0 := mo + 7) (o1 := mm + 7) (l0 := 8) (l1 := 8) (sp := 0) (dp := 0) (k := 8) hc 0 q_768 q_586 q_585 q_20 d_Sy_copyFrom_12 (by omega) (by omega) (ly_M hMo (k := 7) (by omega)) (by omega) (by omega) (ly_M hM (k := 7) (by omega)) rfl (by omega) (by omega) (by decide) (by decide) (Nat.le_of_ble_eq_true rfl) (Nat.le_of_ble_eq_true rfl) ?_
  refine fm_aload_n hc d_Sy_copyFrom_15 rfl rfl ?_
  refine fm_getR (k := 1) (q := mo + 8) hc K_Sy d_Sy_copyFrom_16 q_151 rfl (by omega) (by omega) (congrArg Prod.fst (ly_M hMo (k := 6) (by omega))) (by decide) (by decide) rfl hPo.2.2.2.2.2.2.2.1 ?_
  refine fm_iconst (v := nI 0) hc d_Sy_copyFrom_19 rfl ?_
  refine fm_aload_n hc d_Sy_copyFrom_20 rfl rfl ?_
  refine fm_getR (k := 1) (q := mm + 8) hc K_Sy d_Sy_copyFrom_21 q_151 rfl (by omega) (by omega) (congrArg Prod.fst (ly_M hM (k := 6) (by omega))) (by decide) (by decide) rfl hP.2.2.2.2.2.2.2.1 ?_
  refine fm_iconst (v := nI 0) hc d_Sy_copyFrom_24 rfl ?_
  refine fm_sipush (v := nI 128) hc d_Sy_copyFrom_25 rfl ?_
  refine fm_cpyI (o0 := mo + 8) (o1 := mm + 8) (l0 := 128) (l1 := 128) (sp := 0) (dp := 0) (k := 128) hc 0 q_768 q_586 q_585 q_20 d_Sy_copyFrom_28 (by omega) (by omega) (ly_M hMo (k := 8) (by omega)) (by omega) (by omega) (ly_M hM (k := 8) (by omega)) rfl (by omega) (by omega) (by decide) (by decide) (Nat.le_of_ble_eq_true rfl) (Nat.le_of_ble_eq_true rfl) ?_
  exact fm_vret hc hr d_Sy_copyFrom_31 (Nat.le_refl _) (Nat.le_refl _) ⟨rfl, rfl, rfl⟩
theorem c_Mecopy {l : Launch} {b : Nat} {x : Nat → Nat} {D : va_G} {dA : Nat → ClassId} {mm mo n : Nat} {m0 : am_T} {M : fm_M} (hn : 586 ≤ n) (hM : fm_isM mm) (hMo : fm_isM mo) (hP : fm_MP M mm) (hPo : fm_MP M mo) (hne : mm ≠ mo) (h : hc_M M mo m0) (hw : am_wfs m0) : Met l y_Me_copyFrom (Cond.code y_Me_copyFrom b_Me_copyFrom 3 none :: fm_T0) ({ frames := 2, cells := 0, slots := 0, locals := 80 }) (fm_Pc fm_lay fm_nf fm_fk fm_cl b x D dA (fm_tys dA) (fm_EX b x) false [.ref mm, .ref mo] n M) (fm_Qc fm_lay fm_nf fm_fk fm_cl b x D dA (fun r n' M' => r = none ∧ n' = n ∧ hc_M M' mm m0 ∧ M'.2.2 = M.2.2 ∧ ∀ q, (q < mm ∨ mm + 41 ≤ q) → M'.1 q = M.1 q ∧ M'.2.1 q = M.2.1 q)) 0 0 (fm_A b) := by
  refine fm_enter (by decide) (Nat.le_of_ble_eq_true rfl) ?_
  intro p e s m args below meth c9 hc hr hnm hex htg
  have hlo := isM_lo hM
  have hloo := isM_lo hMo
  have hfar := isM_far hM hMo hne
  obtain ⟨S, K, O, T, G, H, V, Dd⟩ := m0
  obtain ⟨h1, h2, h3, h4, h5, h6, h7⟩ := h
  refine fm_aload_n hc d_Me_copyFrom_0 rfl rfl ?_
  refine fm_getR (k := 0) (q := mo + 1) hc K_Me d_Me_copyFrom_1 q_305 rfl (by omega) (by omega) (ly_M0 hMo) (by decide) (by decide) rfl hPo.1 ?_
  refine fm_iconst (v := nI 0) hc d_Me_copyFrom_4 rfl ?_
  refine fm_aload_n hc d_Me_copyFrom_5 rfl rfl ?_
  refine fm_getR (k := 0) (q := mm + 1) hc K_Me d_Me_copyFrom_6 q_305 rfl (by omega) (by omega) (ly_M0 hM) (by decide) (by decide) rfl hP.1 ?_
  refine fm_iconst (v := nI 0) hc d_Me_copyFrom_9 rfl ?_
  refine fm_bipush (v := nI 8) hc d_Me_copyFrom_10 rfl ?_
  refine fm_cpyI (o0 := mo + 1) (o1 := mm + 1) (l0 := 8) (l1 := 8) (sp := 0) (dp := 0) (k := 8) hc 0 q_763 q_586 q_585 q_20 d_Me_copyFrom_12 (by omega) (by omega) (ly_M hMo (k := 1) (by omega)) (by omega) (by omega) (ly_M hM (k := 1) (by omega)) rfl (by omega) (by omega) (by decide) (by decide) (Nat.le_of_ble_eq_true rfl) (Nat.le_of_ble_eq_true rfl) ?_
  refine fm_aload_n hc d_Me_copyFrom_15 rfl rfl ?_
  refine fm_getR (k := 1) (q := mo + 2) hc K_Me d_Me_copyFrom_16 q_308 rfl (by omega) (by omega) (ly_M0 hMo) (by decide) (by decide) rfl hPo.2.1 ?_
  refine fm_iconst (v := nI 0) hc d_Me_copyFrom_19 rfl ?_
  refine fm_aload_n hc d_Me_copyFrom_20 rfl rfl ?_
  refine fm_getR (k := 1) (q := mm + 2) hc K_Me d_Me_copyFrom_21 q_308 rfl (by omega) (by omega) (ly_M0 hM) (by decide) (by decide) rfl hP.2.1 ?_
  refine fm_iconst (v := nI 0) hc d_Me_copyFrom_24 rfl ?_
  refine fm_bipush (v := nI 8) hc d_Me_copyFrom_25 rfl ?_
  refine fm_cpyI (o0 := mo + 2) (o1 := mm + 2) (l0 := 8) (l1 := 8) (sp := 0) (dp := 0) (k := 8) hc 0 q_763 q_586 q_585 q_20 d_Me_copyFrom_27 (by omega) (by omega) (ly_M hMo (k := 2) (by omega)) (by omega) (by omega) (ly_M hM (k := 2) (by omega)) rfl (by omega) (by omega) (by decide) (by decide) (Nat.le_of_ble_eq_true rfl) (Nat.le_of_ble_eq_true rfl) ?_
  refine fm_aload_n hc d_Me_copyFrom_30 rfl rfl ?_
  refine fm_getR (k := 2) (q := mo + 3) hc K_Me d_Me_copyFrom_31 q_310 rfl (by omega) (by omega) (ly_M0 hMo) (by decide) (by decide) rfl hPo.2.2.1 ?_
  refine fm_iconst (v := nI 0) hc d_Me_copyFrom_34 rfl ?_
  refine fm_aload_n hc d_Me_copyFrom_35 rfl rfl ?_
  refine fm_getR (k := 2) (q := mm + 3) hc K_Me d_Me_copyFrom_36 q_310 rfl (by omega) (by omega) (ly_M0 hM) (by decide) (by decide) rfl hP.2.2.1 ?_
  refine fm_iconst (v := nI 0) hc d_Me_copyFrom_39 rfl ?_
  refine fm_bipush (v := nI 8) hc d_Me_copyFrom_40 rfl ?_
  refine fm_cpyI (o0 := mo + 3) (o1 := mm + 3) (l0 := 8) (l1 := 8) (sp := 0) (dp := 0) (k := 8) hc 0 q_763 q_586 q_585 q_20 d_Me_copyFrom_42 (by omega) (by omega) (ly_M hMo (k := 3) (by omega)) (by omega) (by omega) (ly_M hM (k := 3) (by omega)) rfl (by omega) (by omega) (by decide) (by decide) (Nat.le_of_ble_eq_true rfl) (Nat.le_of_ble_eq_true rfl) ?_
  refine fm_aload_n hc d_Me_copyFrom_45 rfl rfl ?_
  refine fm_getR (k := 3) (q := mo + 4) hc K_Me d_Me_copyFrom_46 q_312 rfl (by omega) (by omega) (ly_M0 hMo) (by decide) (by decide) rfl hPo.2.2.2.1 ?_
  refine fm_iconst (v := nI 0) hc d_Me_copyFrom_49 rfl ?_
  refine fm_aload_n hc d_Me_copyFrom_50 rfl rfl ?_
  refine fm_getR (k := 3) (q := mm + 4) hc K_Me d_Me_copyFrom_51 q_312 rfl (by omega) (by omega) (ly_M0 hM) (by decide) (by decide) rfl hP.2.2.2.1 ?_
  refine fm_iconst (v := nI 0) hc d_Me_copyFrom_54 rfl ?_
  refine fm_bipush (v := nI 8) hc d_Me_copyFrom_55 rfl ?_
  refine fm_cpyI (o0 := mo + 4) (o1 := mm + 4) (l0 := 8) (l1 := 8) (sp := 0) (dp := 0) (k := 8) hc 0 q_763 q_586 q_585 q_20 d_Me_copyFrom_57 (by omega) (by omega) (ly_M hMo (k := 4) (by omega)) (by omega) (by omega) (ly_M hM (k := 4) (by omega)) rfl (by omega) (by omega) (by decide) (by decide) (Nat.le_of_ble_eq_true rfl) (Nat.le_of_ble_eq_true rfl) ?_
  refine fm_aload_n hc d_Me_copyFrom_60 rfl rfl ?_
  refine fm_getR (k := 5) (q := mm + 6) hc K_Me d_Me_copyFrom_61 q_317 rfl (by omega) (by omega) (ly_M0 hM) (by decide) (by decide) rfl hP.2.2.2.2.2.1 ?_
  refine fm_aload_n hc d_Me_copyFrom_64 rfl rfl ?_
  refine fm_getR (k := 5) (q := mo + 6) hc K_Me d_Me_copyFrom_65 q_317 rfl (by omega) (by omega) (ly_M0 hMo) (by decide) (by decide) rfl hPo.2.2.2.2.2.1 ?_
  refine fm_callV (av := [.ref (mo + 6)]) (rest := []) (ob := mm + 6) (ci := 2) (r0 := ("AgentNet$Sayings", F_Sy, 2)) (y := y_Sy_copyFrom) (bytes := b_Sy_copyFrom) hc fm_T0_good (fm_EX_st b x) hex q_767 q_6 q_764 q_765 q_766 pd_Sy_copyFrom (by omega) (by omega) (congrArg Prod.fst (ly_M hM (k := 6) (by omega))) (by decide) rfl rfl (c_Sycopy (M := fm_cpy1 (fm_cpy1 (fm_cpy1 (fm_cpy1 M (mo + 1) (mm + 1) 0 0 8) (mo + 2) (mm + 2) 0 0 8) (mo + 3) (mm + 3) 0 0 8) (mo + 4) (mm + 4) 0 0 8) hn hM hMo hP hPo) ⟨rfl, rfl, Nat.le_of_ble_eq_true rfl, Nat.le_of_ble_eq_true rfl⟩ ⟨Nat.le_of_ble_eq_true rfl, Nat.le_of_ble_eq_true rfl⟩ d_Me_copyFrom_68 (Nat.le_of_ble_eq_true rfl) (fun r n2 M2 hp => ?_)
  obtain ⟨rfl, hq1, hq2⟩ := hp
  replace hq1 := hq1.symm
  subst hq1
  have eR : M2.2.2 = M.2.2 := by rw [hq2]; rfl
  have eL : M2.2.1 = M.2.1 := by rw [hq2]; rfl
  have ex : ∀ q, q ≠ mm + 1 → q ≠ mm + 2 → q ≠ mm + 3 → q ≠ mm + 4 → q ≠ mm + 7 → q ≠ mm + 8 → M2.1 q = M.1 q := fun q a1 a2 a3 a4 a5 a6 => by rw [hq2, cpy1_ot a6, cpy1_ot a5, cpy1_ot a4, cpy1_ot a3, cpy1_ot a2, cpy1_ot a1]
  have k1 : ∀ a, a < 8 → M2.1 (mm + 1) a = nI (S a) := fun a ha => by rw [hq2, cpy1_ot (by omega), cpy1_ot (by omega), cpy1_ot (by omega), cpy1_ot (by omega), cpy1_ot (by omega), cpy1_in ha]; exact h1 a ha
  have k2 : ∀ a, a < 8 → M2.1 (mm + 2) a = K a := fun a ha => by rw [hq2, cpy1_ot (by omega), cpy1_ot (by omega), cpy1_ot (by omega), cpy1_ot (by omega), cpy1_in ha, cpy1_ot (by omega)]; exact h2 a ha
  have k3 : ∀ a, a < 8 → M2.1 (mm + 3) a = O a := fun a ha => by rw [hq2, cpy1_ot (by omega), cpy1_ot (by omega), cpy1_ot (by omega), cpy1_in ha, cpy1_ot (by omega), cpy1_ot (by omega)]; exact h3 a ha
  have k4 : ∀ a, a < 8 → M2.1 (mm + 4) a = T a := fun a ha => by rw [hq2, cpy1_ot (by omega), cpy1_ot (by omega), cpy1_in ha, cpy1_ot (by omega), cpy1_ot (by omega), cpy1_ot (by omega)]; exact h4 a ha
  have k5 : ∀ a, a < 8 → M2.1 (mm + 7) a = H a := fun a ha => by rw [hq2, cpy1_ot (by omega), cpy1_in ha, cpy1_ot (by omega), cpy1_ot (by omega), cpy1_ot (by omega), cpy1_ot (by omega)]; exact h5 a ha
  have k6 : ∀ a i, a < 8 → i < 16 → M2.1 (mm + 8) (a * 16 + i) = V a i := fun a i ha hi => by rw [hq2, cpy1_in (by omega), cpy1_ot (by omega), cpy1_ot (by omega), cpy1_ot (by omega), cpy1_ot (by omega), cpy1_ot (by omega)]; exact h6 a i ha hi
  clear hq2
  revert eR eL ex k1 k2 k3 k4 k5 k6
  generalize M2 = Ma
  intro eR eL ex k1 k2 k3 k4 k5 k6
  refine fm_cnt (z' := (0, 0)) rfl (fm_st (st' := []) rfl ?_)
  refine fm_iconst (v := nI 0) hc d_Me_copyFrom_71 rfl ?_
  refine fm_istore_n (lv' := [(2, .int (nI 0)), (0, .ref mm), (1, .ref mo)]) hc d_Me_copyFrom_72 rfl (by decide) rfl ?_
  refine fm_loopI (N := 8) (lv := fun k => [(2, .int (nI k)), (0, .ref mm), (1, .ref mo)]) (I := fun k M' => (∀ a, a < k → S a ≠ 0 → hc_A M' (mm + (9 + 4 * a)) (G a)) ∧ M'.2.2 = M.2.2 ∧ ∀ q, (q < mm + 9 ∨ mm + 41 ≤ q) → M'.1 q = Ma.1 q ∧ M'.2.1 q = Ma.2.1 q) (fun k Mk hk hI ih => ?_) (fun Mk hI => ?_) ⟨fun a ha => absurd ha (Nat.not_lt_zero a), eR, fun _ _ => ⟨rfl, rfl⟩⟩
  · obtain ⟨i1, i2, i3⟩ := hI
    have hPk := MP_of i2 hP
    have hPok := MP_of i2 hPo
    have hsl : Mk.1 (mm + 1) k = nI (S k) := by rw [(i3 _ (by omega)).1]; exact k1 k hk
    have s4 : S k ≤ 4 := hw.1 k hk
    by_cases g1 : S k = 0
    · refine fm_iload_n hc d_Me_copyFrom_73 rfl rfl ?_
      refine fm_bipush (v := nI 8) hc d_Me_copyFrom_74 rfl ?_
      refine fm_icmp_ge (tgt := 109) hc d_Me_copyFrom_76 rfl (fun g => absurd g (hnle (a := 8) (c := k) hk (by omega))) (fun _ => ?_)
      refine fm_aload_n hc d_Me_copyFrom_79 rfl rfl ?_
      refine fm_getR (k := 0) (q := mm + 1) hc K_Me d_Me_copyFrom_80 q_305 rfl (by omega) (by omega) (ly_M0 hM) (by decide) (by decide) rfl hPk.1 ?_
      refine fm_iload_n hc d_Me_copyFrom_83 rfl rfl ?_
      refine fm_iald (j := k) (len := 8) hc 0 d_Me_copyFrom_84 (by omega) (by omega) (ly_M hM (k := 1) (by omega)) rfl (by omega) (by decide) ?_
      refine fm_top (congrArg Value.int (show Mk.1 (mm + 1) k = nI (S k) from hsl)) ?_
      refine fm_if_eq (tgt := 103) hc d_Me_copyFrom_85 rfl (fun _ => ?_) (fun g => absurd (congrArg nI g1) g)
      refine fm_iinc (v := nI (k + 1)) (lv' := [(2, .int (nI (k + 1))), (0, .ref mm), (1, .ref mo)]) hc d_Me_copyFrom_103 rfl (nI_1 k) (by decide) rfl ?_
      refine fm_goto (tgt := 73) hc d_Me_copyFrom_106 rfl ?_
      refine fm_dropl (lv' := [(2, .int (nI (k + 1))), (0, .ref mm), (1, .ref mo)]) (by simp) ?_
      exact ih _ ⟨fun a ha hs => i1 a (by
        by_cases q : a = k
        · subst q; exact absurd g1 hs
        · omega) hs, i2, i3⟩
    · have wk : ag_wf k (G k) := hw.2 k hk g1
      have w7 : (G k).1 7 ≤ 1 := wk.2.2.2.2.2.2.2.2
      have hA : hc_A Mk (mo + (9 + 4 * k)) (G k) := by
        have h := h7 k hk g1
        unfold hc_A at *
        rw [(i3 _ (by omega)).1, (i3 (mo + (9 + 4 * k) + 1) (by omega)).2, (i3 (mo + (9 + 4 * k) + 2) (by omega)).2, (i3 (mo + (9 + 4 * k) + 3) (by omega)).2, eL, ex _ (by omega) (by omega) (by omega) (by omega) (by omega) (by omega)]
        exact h
      have tL := isM_trL (n := n) hM hk hn
      have qL := isM_trL (n := n) hMo hk hn
      have tP := isM_trP hPk hk
      have qP := isM_trP hPok hk
      have b7 : Mk.1 (mo + (9 + 4 * k)) 7 = 0 ∨ Mk.1 (mo + (9 + 4 * k)) 7 = 1 := by
        rw [hA.1 7 (by decide)]
        rcases (show (G k).1 7 = 0 ∨ (G k).1 7 = 1 by omega) with e | e <;> rw [e]
        · exact Or.inl rfl
        · exact Or.inr rfl
      refine fm_iload_n hc d_Me_copyFrom_73 rfl rfl ?_
      refine fm_bipush (v := nI 8) hc d_Me_copyFrom_74 rfl ?_
      refine fm_icmp_ge (tgt := 109) hc d_Me_copyFrom_76 rfl (fun g => absurd g (hnle (a := 8) (c := k) hk (by omega))) (fun _ => ?_)
      refine fm_aload_n hc d_Me_copyFrom_79 rfl rfl ?_
      refine fm_getR (k := 0) (q := mm + 1) hc K_Me d_Me_copyFrom_80 q_305 rfl (by omega) (by omega) (ly_M0 hM) (by decide) (by decide) rfl hPk.1 ?_
      refine fm_iload_n hc d_Me_copyFrom_83 rfl rfl ?_
      refine fm_iald (j := k) (len := 8) hc 0 d_Me_copyFrom_84 (by omega) (by omega) (ly_M hM (k := 1) (by omega)) rfl (by omega) (by decide) ?_
      refine fm_top (congrArg Value.int (show Mk.1 (mm + 1) k = nI (S k) from hsl)) ?_
      refine fm_if_eq (tgt := 103) hc d_Me_copyFrom_85 rfl (fun g => absurd g (fun e => g1 (nI_inj (c := 0) (by omega) (by decide) e))) (fun _ => ?_)
      refine fm_aload_n hc d_Me_copyFrom_88 rfl rfl ?_
      refine fm_getR (k := 4) (q := mm + 5) hc K_Me d_Me_copyFrom_89 q_314 rfl (by omega) (by omega) (ly_M0 hM) (by decide) (by decide) rfl hPk.2.2.2.2.1 ?_
      refine fm_iload_n hc d_Me_copyFrom_92 rfl rfl ?_
      refine fm_aald (q := mm + (9 + 4 * k)) (j := k) (len := 8) hc 7 d_Me_copyFrom_93 (by omega) (by omega) (ly_M hM (k := 5) (by omega)) (by decide) rfl (by omega) (by decide) (hPk.2.2.2.2.2.2.2.2 k hk).1 ?_
      refine fm_aload_n hc d_Me_copyFrom_94 rfl rfl ?_
      refine fm_getR (k := 4) (q := mo + 5) hc K_Me d_Me_copyFrom_95 q_314 rfl (by omega) (by omega) (ly_M0 hMo) (by decide) (by decide) rfl hPok.2.2.2.2.1 ?_
      refine fm_iload_n hc d_Me_copyFrom_98 rfl rfl ?_
      refine fm_aald (q := mo + (9 + 4 * k)) (j := k) (len := 8) hc 7 d_Me_copyFrom_99 (by omega) (by omega) (ly_M hMo (k := 5) (by omega)) (by decide) rfl (by omega) (by decide) (hPok.2.2.2.2.2.2.2.2 k hk).1 ?_
      refine fm_callV (av := [.ref (mo + (9 + 4 * k))]) (rest := []) (ob := mm + (9 + 4 * k)) (ci := 5) (r0 := ("AgentNet$Traveller", F_Tr, 13)) (y := y_Tr_copyFrom) (bytes := b_Tr_copyFrom) hc fm_T0_good (fm_EX_st b x) hex q_583 q_8 q_769 q_581 q_582 pd_Tr_copyFrom (by omega) (by omega) (ly_Mt hM hk) (by decide) rfl rfl (c_trc (by omega) (by omega) (by omega) (by omega) (by omega) tL.2.2.1 tL.2.2.2.1 tL.2.2.2.2.1 tL.2.2.2.2.2 (by omega) (by omega) (by omega) (by omega) (by omega) qL.2.2.1 qL.2.2.2.1 qL.2.2.2.2.1 qL.2.2.2.2.2 (by omega) tP.1 tP.2.1 tP.2.2 qP.1 qP.2.1 qP.2.2 b7 hA.2.1 wk.1.1 hA.2.2.1 wk.1.2.1) ⟨rfl, rfl, Nat.le_of_ble_eq_true rfl, Nat.le_of_ble_eq_true rfl⟩ ⟨Nat.le_of_ble_eq_true rfl, Nat.le_of_ble_eq_true rfl⟩ d_Me_copyFrom_100 (Nat.le_of_ble_eq_true rfl) (fun r n2 M2 hp => ?_)
      obtain ⟨rfl, hq1, hq2⟩ := hp
      replace hq1 := hq1.symm
      subst hq1
      have r1 : hc_A M2 (mm + (9 + 4 * k)) (G k) := by rw [hq2]; exact hcA_trc (by omega) hA
      have r2 : ft_T (mm + (9 + 4 * k)) Mk M2 := by rw [hq2]; exact ftT_trc
      clear hq2
      revert r1 r2
      generalize M2 = Mb
      intro r1 r2
      refine fm_cnt (z' := (0, 0)) rfl (fm_st (st' := []) rfl ?_)
      refine fm_iinc (v := nI (k + 1)) (lv' := [(2, .int (nI (k + 1))), (0, .ref mm), (1, .ref mo)]) hc d_Me_copyFrom_103 rfl (nI_1 k) (by decide) rfl ?_
      refine fm_goto (tgt := 73) hc d_Me_copyFrom_106 rfl ?_
      refine fm_dropl (lv' := [(2, .int (nI (k + 1))), (0, .ref mm), (1, .ref mo)]) (by simp) ?_
      refine ih _ ⟨fun a ha hs => ?_, r2.1.trans i2, fun q hq => ⟨(r2.2.1 q (by omega)).trans (i3 q hq).1, (r2.2.2 q (by omega) (by omega) (by omega)).trans (i3 q hq).2⟩⟩
      by_cases q : a = k
      · subst q; exact r1
      · exact hcA_ft (by omega) (i1 a (by omega) hs) r2
  · obtain ⟨i1, i2, i3⟩ := hI
    refine fm_iload_n hc d_Me_copyFrom_73 rfl rfl ?_
    refine fm_bipush (v := nI 8) hc d_Me_copyFrom_74 rfl ?_
    refine fm_icmp_ge (tgt := 109) hc d_Me_copyFrom_76 rfl (fun _ => ?_) (fun g => absurd (by decide) g)
    exact fm_vret hc hr d_Me_copyFrom_109 (Nat.le_refl _) (Nat.le_refl _) ⟨rfl, rfl, ⟨fun a ha => by rw [(i3 _ (by omega)).1]; exact k1 a ha, fun a ha => by rw [(i3 _ (by omega)).1]; exact k2 a ha, fun a ha => by rw [(i3 _ (by omega)).1]; exact k3 a ha, fun a ha => by rw [(i3 _ (by omega)).1]; exact k4 a ha, fun a ha => by rw [(i3 _ (by omega)).1]; exact k5 a ha, fun a i ha hi => by rw [(i3 _ (by omega)).1]; exact k6 a i ha hi, i1⟩, i2, fun q hq => ⟨(i3 q (by omega)).1.trans (ex q (by omega) (by omega) (by omega) (by omega) (by omega) (by omega)), by rw [(i3 q (by omega)).2, eL]⟩⟩
def fr_S (j mm i0 : Nat) (M M' : fm_M) : Prop := M'.2.2 = M.2.2 ∧ (∀ q, (q < mm ∨ mm + 41 ≤ q) → q ≠ 90 + 124 * j → M'.1 q = M.1 q ∧ M'.2.1 q = M.2.1 q) ∧ (∀ i, i ≠ i0 → M'.1 (90 + 124 * j) i = M.1 (90 + 124 * j) i)
theorem c_beginCopy {l : Launch} {b : Nat} {x : Nat → Nat} {D : va_G} {dA : Nat → ClassId} {mm mo j n : Nat} {m0 : am_T} {M : fm_M} (hn : 586 ≤ n) (hM : fm_isM mm) (hMo : fm_isM mo) (hP : fm_MP M mm) (hPo : fm_MP M mo) (hj : j < 4) (hs5 : M.2.2 (90 + 124 * j) 5 = some mm) (hs3 : M.2.2 (90 + 124 * j) 3 = some mo) (hne : mm ≠ mo) (h : hc_M M mo m0) (hw : am_wfs m0) : Met l y_Si_beginCopy (Cond.code y_Si_beginCopy b_Si_beginCopy 1 (some .int) :: fm_T0) ({ frames := 3, cells := 0, slots := 0, locals := 120 }) (fm_Pc fm_lay fm_nf fm_fk fm_cl b x D dA (fm_tys dA) (fm_EX b x) false [.ref (90 + 124 * j)] n M) (fm_Qc fm_lay fm_nf fm_fk fm_cl b x D dA (fun r n' M' => r = some (.int (nI (am_fil m0.1 8 + 1))) ∧ n' = n ∧ hc_M M' mm m0 ∧ M'.1 (90 + 124 * j) 2 = nI (am_fil m0.1 8 + 1) ∧ fr_S j mm 2 M M')) 0 0 (fm_A b) := by
  refine fm_enter (by decide) (Nat.le_of_ble_eq_true rfl) ?_
  intro p e s m args below meth c9 hc hr hnm hex htg
  have hlo := isM_lo hM
  have hloo := isM_lo hMo
  have hsm := isM_site (j := j) hM
  refine fm_aload_n hc d_Si_beginCopy_0 rfl rfl ?_
  refine fm_getR (k := 5) (q := mm) hc K_Si d_Si_beginCopy_1 q_341 rfl (by omega) (by omega) (ly_Si hj) (by decide) (by decide) rfl hs5 ?_
  refine fm_aload_n hc d_Si_beginCopy_4 rfl rfl ?_
  refine fm_getR (k := 3) (q := mo) hc K_Si d_Si_beginCopy_5 q_337 rfl (by omega) (by omega) (ly_Si hj) (by decide) (by decide) rfl hs3 ?_
  refine fm_callV (av := [.ref mo]) (rest := []) (ob := mm) (ci := 6) (r0 := ("AgentNet$Memory", F_Me, 6)) (y := y_Me_copyFrom) (bytes := b_Me_copyFrom) hc fm_T0_good (fm_EX_st b x) hex q_762 q_11 q_759 q_760 q_761 pd_Me_copyFrom (by omega) (by omega) (ly_M0 hM) (by decide) rfl rfl (c_Mecopy hn hM hMo hP hPo hne h hw) ⟨rfl, rfl, Nat.le_of_ble_eq_true rfl, Nat.le_of_ble_eq_true rfl⟩ ⟨Nat.le_of_ble_eq_true rfl, Nat.le_of_ble_eq_true rfl⟩ d_Si_beginCopy_8 (Nat.le_of_ble_eq_true rfl) (fun r n2 M2 hp => ?_)
  obtain ⟨rfl, hq1, r1, r2, r3⟩ := hp
  replace hq1 := hq1.symm
  subst hq1
  revert r1 r2 r3
  generalize M2 = Ma
  intro r1 r2 r3
  have hPa := MP_of r2 hP
  refine fm_cnt (z' := (0, 0)) rfl (fm_st (st' := []) rfl ?_)
  refine fm_aload_n hc d_Si_beginCopy_11 rfl rfl ?_
  refine fm_aload_n hc d_Si_beginCopy_12 rfl rfl ?_
  refine fm_getR (k := 5) (q := mm) hc K_Si d_Si_beginCopy_13 q_341 rfl (by omega) (by omega) (ly_Si hj) (by decide) (by decide) rfl (by rw [r2]; exact hs5) ?_
  refine fm_callV (av := []) (rest := [.ref (90 + 124 * j)]) (ob := mm) (ci := 6) (r0 := ("AgentNet$Memory", F_Me, 6)) (y := y_Me_filled) (bytes := b_Me_filled) hc fm_T0_good (fm_EX_st b x) hex q_773 q_11 q_770 q_771 q_772 pd_Me_filled (by omega) (by omega) (ly_M0 hM) (by decide) rfl rfl (c_filled (S := m0.1) hn hM hPa r1.1 hw.1) ⟨rfl, rfl, Nat.le_of_ble_eq_true rfl, Nat.le_of_ble_eq_true rfl⟩ ⟨Nat.le_of_ble_eq_true rfl, Nat.le_of_ble_eq_true rfl⟩ d_Si_beginCopy_16 (Nat.le_of_ble_eq_true rfl) (fun r n2 M2 hp => ?_)
  obtain ⟨rfl, hq1, hq2⟩ := hp
  replace hq1 := hq1.symm
  replace hq2 := hq2.symm
  subst hq1 hq2
  refine fm_cnt (z' := (0, 0)) rfl (fm_st (st' := [.int (nI (am_fil m0.1 8)), .ref (90 + 124 * j)]) rfl ?_)
  refine fm_iconst (v := nI 1) hc d_Si_beginCopy_19 rfl ?_
  refine fm_iadd hc d_Si_beginCopy_20 ?_
  refine fm_top (congrArg Value.int (nI_add (am_fil m0.1 8) 1)) ?_
  refine fm_putI (k := 2) (v := nI ((am_fil m0.1 8) + 1)) hc K_Si d_Si_beginCopy_21 q_335 rfl (by omega) (by omega) (ly_Si hj) (by decide) (by decide) rfl rfl rfl rfl ?_
  refine fm_aload_n hc d_Si_beginCopy_24 rfl rfl ?_
  refine fm_getI (k := 2) hc K_Si d_Si_beginCopy_25 q_335 rfl (by omega) (by omega) (ly_Si hj) (by decide) (by decide) rfl ?_
  refine fm_top (congrArg Value.int (show (fm_put1 Ma (90 + 124 * j) 2 (nI ((am_fil m0.1 8) + 1))).1 (90 + 124 * j) 2 = nI (am_fil m0.1 8 + 1) from (p1_same _ _ _ _))) ?_
  exact fm_iret hc hr d_Si_beginCopy_28 (Nat.le_refl _) (Nat.le_refl _) ⟨rfl, rfl, hcM_of (fun q a1 a2 => funext fun i => p1_other (by omega)) (fun _ _ _ => rfl) r1, p1_same _ _ _ _, r2, fun q a1 a2 => ⟨(funext fun i => p1_other a2).trans (r3 q a1).1, (r3 q a1).2⟩, fun i hi => (p1_at hi).trans (congrFun (r3 _ hsm).1 i)⟩
theorem x_checkpoint_go {l : Launch} {b : Nat} {x : Nat → Nat} {D : va_G} {dA : Nat → ClassId} (htr : l.stackTraces = false) {mm mo j n : Nat} {m0 : am_T} {M : fm_M} (hn : 586 ≤ n) (hM : fm_isM mm) (hMo : fm_isM mo) (hP : fm_MP M mm) (hPo : fm_MP M mo) (hj : j < 4) (hs5 : M.2.2 (90 + 124 * j) 5 = some mm) (hs3 : M.2.2 (90 + 124 * j) 3 = some mo) (hne : mm ≠ mo) (h : hc_M M mo m0) (hw : am_wfs m0) (hA : fm_AP M) (hu : ¬ M.1 (90 + 124 * j) 1 = 0) (hl : M.1 (90 + 124 * j) 2 = nI 0) : MetFree l y_An_checkpoint (headSpec (Cond.code y_An_checkpoint b_An_checkpoint 2 (some .int) :: fm_T0) ({ frames := 10, cells := 1, slots := 6, locals := 400 })) (fm_Pc fm_lay fm_nf fm_fk fm_cl b x D dA (fm_tys dA) (fm_EX b x) false [.ref 8, .int (nI j)] n M) (fun _ _ _ _ _ => True) (fx_Q fm_lay fm_nf fm_fk fm_cl b x D dA (fun r n' M' => r = some (.int (nI (am_fil m0.1 8 + 1))) ∧ n' = n ∧ hc_M M' mm m0 ∧ M'.1 (90 + 124 * j) 2 = nI (am_fil m0.1 8 + 1) ∧ fr_S j mm 2 M M') (fun _ _ _ => False) 1 6) := by
  refine fx_enter (by decide) (Nat.le_of_ble_eq_true rfl) ?_
  intro p e s m args below meth c9 hc hr hnm hex htg htab
  have hlo := isM_lo hM
  have hloo := isM_lo hMo
  refine fm_iload_n hc d_An_checkpoint_0 rfl rfl ?_
  refine fm_callS (av := [.int (nI j)]) (rest := []) (y := y_An_isHost) (bytes := b_An_isHost) hc fm_T0_good (fm_EX_st b x) hex q_397 q_1 q_395 q_396 pd_An_isHost (c_An_isHost_ok (in4_of hj)) ⟨rfl, rfl, Nat.le_of_ble_eq_true rfl, Nat.le_of_ble_eq_true rfl⟩ ⟨Nat.le_of_ble_eq_true rfl, Nat.le_of_ble_eq_true rfl⟩ d_An_checkpoint_1 (Nat.le_of_ble_eq_true rfl) (fun r n2 M2 hp => ?_)
  obtain ⟨rfl, hq1, hq2⟩ := hp
  replace hq1 := hq1.symm
  replace hq2 := hq2.symm
  subst hq1 hq2
  refine fm_cnt (z' := (0, 0)) rfl (fm_st (st' := [.int (nI 1)]) rfl ?_)
  refine fm_if_ne (tgt := 15) hc d_An_checkpoint_4 rfl (fun _ => ?_) (fun g => absurd g (by decide))
  refine fm_aload_n hc d_An_checkpoint_15 rfl rfl ?_
  refine fm_getR (k := 2) (q := 15) hc K_An d_An_checkpoint_16 q_357 rfl (by decide) (by omega) (by decide) (by decide) (by decide) rfl (ap_2 hA) ?_
  refine fm_iload_n hc d_An_checkpoint_19 rfl rfl ?_
  refine fm_aald (q := 90 + 124 * j) (j := j) (len := 4) hc 5 d_An_checkpoint_20 (by decide) (by omega) (by decide) (by decide) rfl (by omega) (by decide) (ap_site hA hj) ?_
  refine fm_getI (k := 1) hc K_Si d_An_checkpoint_21 q_334 rfl (by omega) (by omega) (ly_Si hj) (by decide) (by decide) rfl ?_
  refine fm_if_eq (tgt := 39) hc d_An_checkpoint_24 rfl (fun g => absurd g hu) (fun _ => ?_)
  refine fm_aload_n hc d_An_checkpoint_27 rfl rfl ?_
  refine fm_getR (k := 2) (q := 15) hc K_An d_An_checkpoint_28 q_357 rfl (by decide) (by omega) (by decide) (by decide) (by decide) rfl (ap_2 hA) ?_
  refine fm_iload_n hc d_An_checkpoint_31 rfl rfl ?_
  refine fm_aald (q := 90 + 124 * j) (j := j) (len := 4) hc 5 d_An_checkpoint_32 (by decide) (by omega) (by decide) (by decide) rfl (by omega) (by decide) (ap_site hA hj) ?_
  refine fm_getI (k := 2) hc K_Si d_An_checkpoint_33 q_336 rfl (by omega) (by omega) (ly_Si hj) (by decide) (by decide) rfl ?_
  refine fm_top (congrArg Value.int (show M.1 (90 + 124 * j) 2 = nI 0 from hl)) ?_
  refine fm_if_le (tgt := 47) hc d_An_checkpoint_36 rfl (fun _ => ?_) (fun g => absurd (by decide) g)
  refine fm_aload_n hc d_An_checkpoint_47 rfl rfl ?_
  refine fm_getR (k := 2) (q := 15) hc K_An d_An_checkpoint_48 q_357 rfl (by decide) (by omega) (by decide) (by decide) (by decide) rfl (ap_2 hA) ?_
  refine fm_iload_n hc d_An_checkpoint_51 rfl rfl ?_
  refine fm_aald (q := 90 + 124 * j) (j := j) (len := 4) hc 5 d_An_checkpoint_52 (by decide) (by omega) (by decide) (by decide) rfl (by omega) (by decide) (ap_site hA hj) ?_
  refine fm_callV (av := []) (rest := []) (ob := 90 + 124 * j) (ci := 8) (r0 := ("AgentNet$Site", F_Si, 6)) (y := y_Si_beginCopy) (bytes := b_Si_beginCopy) hc fm_T0_good (fm_EX_st b x) hex q_758 q_10 q_755 q_756 q_757 pd_Si_beginCopy (by omega) (by omega) (ly_Si hj) (by decide) rfl rfl (c_beginCopy hn hM hMo hP hPo hj hs5 hs3 hne h hw) ⟨rfl, rfl, Nat.le_of_ble_eq_true rfl, Nat.le_of_ble_eq_true rfl⟩ ⟨Nat.le_of_ble_eq_true rfl, Nat.le_of_ble_eq_true rfl⟩ d_An_checkpoint_53 (Nat.le_of_ble_eq_true rfl) (fun r n2 M2 hp => ?_)
  obtain ⟨rfl, hq1, r1, r2, r3⟩ := hp
  replace hq1 := hq1.symm
  subst hq1
  revert r1 r2 r3
  generalize M2 = Mz
  intro r1 r2 r3
  refine fm_cnt (z' := (0, 0)) rfl (fm_st (st' := [.int (nI (am_fil m0.1 8 + 1))]) rfl ?_)
  exact fx_ret (fm_iret hc hr d_An_checkpoint_56 (Nat.le_of_ble_eq_true rfl) (Nat.le_of_ble_eq_true rfl) ⟨rfl, rfl, r1, r2, r3⟩)
theorem c_comeUp {l : Launch} {b : Nat} {x : Nat → Nat} {D : va_G} {dA : Nat → ClassId} {mm mo j n : Nat} {m0 : am_T} {M : fm_M} (hn : 586 ≤ n) (hM : fm_isM mm) (hMo : fm_isM mo) (hP : fm_MP M mm) (hPo : fm_MP M mo) (hj : j < 4) (hs3 : M.2.2 (90 + 124 * j) 3 = some mm) (hs4 : M.2.2 (90 + 124 * j) 4 = some mo) (hne : mm ≠ mo) (h : hc_M M mo m0) (hw : am_wfs m0) : Met l y_Si_comeUp (Cond.code y_Si_comeUp b_Si_comeUp 1 none :: fm_T0) ({ frames := 3, cells := 0, slots := 0, locals := 120 }) (fm_Pc fm_lay fm_nf fm_fk fm_cl b x D dA (fm_tys dA) (fm_EX b x) false [.ref (90 + 124 * j)] n M) (fm_Qc fm_lay fm_nf fm_fk fm_cl b x D dA (fun r n' M' => r = none ∧ n' = n ∧ hc_M M' mm m0 ∧ M'.1 (90 + 124 * j) 1 = nI 1 ∧ fr_S j mm 1 M M')) 0 0 (fm_A b) := by
  refine fm_enter (by decide) (Nat.le_of_ble_eq_true rfl) ?_
  intro p e s m args below meth c9 hc hr hnm hex htg
  have hlo := isM_lo hM
  have hloo := isM_lo hMo
  have hsm := isM_site (j := j) hM
  have hsm2 := isM_site (j := j) hMo
  refine fm_aload_n hc d_Si_comeUp_0 rfl rfl ?_
  refine fm_iconst (v := nI 1) hc d_Si_comeUp_1 rfl ?_
  refine fm_putI (k := 1) (v := nI 1) hc K_Si d_Si_comeUp_2 q_333 rfl (by omega) (by omega) (ly_Si hj) (by decide) (by decide) rfl rfl rfl rfl ?_
  refine fm_mem (M' := fm_put1 M (90 + 124 * j) 1 (nI 1)) rfl rfl ?_
  refine fm_aload_n hc d_Si_comeUp_5 rfl rfl ?_
  refine fm_getR (k := 3) (q := mm) hc K_Si d_Si_comeUp_6 q_337 rfl (by omega) (by omega) (ly_Si hj) (by decide) (by decide) rfl hs3 ?_
  refine fm_aload_n hc d_Si_comeUp_9 rfl rfl ?_
  refine fm_getR (k := 4) (q := mo) hc K_Si d_Si_comeUp_10 q_339 rfl (by omega) (by omega) (ly_Si hj) (by decide) (by decide) rfl hs4 ?_
  refine fm_callV (av := [.ref mo]) (rest := []) (ob := mm) (ci := 6) (r0 := ("AgentNet$Memory", F_Me, 6)) (y := y_Me_copyFrom) (bytes := b_Me_copyFrom) hc fm_T0_good (fm_EX_st b x) hex q_762 q_11 q_759 q_760 q_761 pd_Me_copyFrom (by omega) (by omega) (ly_M0 hM) (by decide) rfl rfl (c_Mecopy (M := fm_put1 M (90 + 124 * j) 1 (nI 1)) hn hM hMo hP hPo hne (hcM_of (fun q a1 a2 => funext fun i => p1_other (by omega)) (fun _ _ _ => rfl) h) hw) ⟨rfl, rfl, Nat.le_of_ble_eq_true rfl, Nat.le_of_ble_eq_true rfl⟩ ⟨Nat.le_of_ble_eq_true rfl, Nat.le_of_ble_eq_true rfl⟩ d_Si_comeUp_13 (Nat.le_of_ble_eq_true rfl) (fun r n2 M2 hp => ?_)
  obtain ⟨rfl, hq1, r1, r2, r3⟩ := hp
  replace hq1 := hq1.symm
  subst hq1
  revert r1 r2 r3
  generalize M2 = Ma
  intro r1 r2 r3
  refine fm_cnt (z' := (0, 0)) rfl (fm_st (st' := []) rfl ?_)
  exact fm_vret hc hr d_Si_comeUp_16 (Nat.le_refl _) (Nat.le_refl _) ⟨rfl, rfl, r1, (congrFun (r3 _ hsm).1 1).trans (p1_same _ _ _ _), r2, fun q a1 a2 => ⟨(r3 q a1).1.trans (funext fun i => p1_other a2), (r3 q a1).2⟩, fun i hi => (congrFun (r3 _ hsm).1 i).trans (p1_at hi)⟩
theorem x_start_go {l : Launch} {b : Nat} {x : Nat → Nat} {D : va_G} {dA : Nat → ClassId} (htr : l.stackTraces = false) {mm mo j n : Nat} {m0 : am_T} {M : fm_M} (hn : 586 ≤ n) (hM : fm_isM mm) (hMo : fm_isM mo) (hP : fm_MP M mm) (hPo : fm_MP M mo) (hj : j < 4) (hs3 : M.2.2 (90 + 124 * j) 3 = some mm) (hs4 : M.2.2 (90 + 124 * j) 4 = some mo) (hne : mm ≠ mo) (h : hc_M M mo m0) (hw : am_wfs m0) (hA : fm_AP M) (hu : M.1 (90 + 124 * j) 1 = nI 0) : MetFree l y_An_start (headSpec (Cond.code y_An_start b_An_start 2 (some .boolean) :: fm_T0) ({ frames := 10, cells := 1, slots := 6, locals := 400 })) (fm_Pc fm_lay fm_nf fm_fk fm_cl b x D dA (fm_tys dA) (fm_EX b x) false [.ref 8, .int (nI j)] n M) (fun _ _ _ _ _ => True) (fx_Q fm_lay fm_nf fm_fk fm_cl b x D dA (fun r n' M' => r = some (.int (nI 1)) ∧ n' = n ∧ hc_M M' mm m0 ∧ M'.1 (90 + 124 * j) 1 = nI 1 ∧ fr_S j mm 1 M M') (fun _ _ _ => False) 1 6) := by
  refine fx_enter (by decide) (Nat.le_of_ble_eq_true rfl) ?_
  intro p e s m args below meth c9 hc hr hnm hex htg htab
  have hlo := isM_lo hM
  have hloo := isM_lo hMo
  refine fm_iload_n hc d_An_start_0 rfl rfl ?_
  refine fm_callS (av := [.int (nI j)]) (rest := []) (y := y_An_isHost) (bytes := b_An_isHost) hc fm_T0_good (fm_EX_st b x) hex q_397 q_1 q_395 q_396 pd_An_isHost (c_An_isHost_ok (in4_of hj)) ⟨rfl, rfl, Nat.le_of_ble_eq_true rfl, Nat.le_of_ble_eq_true rfl⟩ ⟨Nat.le_of_ble_eq_true rfl, Nat.le_of_ble_eq_true rfl⟩ d_An_start_1 (Nat.le_of_ble_eq_true rfl) (fun r n2 M2 hp => ?_)
  obtain ⟨rfl, hq1, hq2⟩ := hp
  replace hq1 := hq1.symm
  replace hq2 := hq2.symm
  subst hq1 hq2
  refine fm_cnt (z' := (0, 0)) rfl (fm_st (st' := [.int (nI 1)]) rfl ?_)
  refine fm_if_ne (tgt := 15) hc d_An_start_4 rfl (fun _ => ?_) (fun g => absurd g (by decide))
  refine fm_aload_n hc d_An_start_15 rfl rfl ?_
  refine fm_getR (k := 2) (q := 15) hc K_An d_An_start_16 q_357 rfl (by decide) (by omega) (by decide) (by decide) (by decide) rfl (ap_2 hA) ?_
  refine fm_iload_n hc d_An_start_19 rfl rfl ?_
  refine fm_aald (q := 90 + 124 * j) (j := j) (len := 4) hc 5 d_An_start_20 (by decide) (by omega) (by decide) (by decide) rfl (by omega) (by decide) (ap_site hA hj) ?_
  refine fm_getI (k := 1) hc K_Si d_An_start_21 q_334 rfl (by omega) (by omega) (ly_Si hj) (by decide) (by decide) rfl ?_
  refine fm_top (congrArg Value.int (show M.1 (90 + 124 * j) 1 = nI 0 from hu)) ?_
  refine fm_if_eq (tgt := 29) hc d_An_start_24 rfl (fun _ => ?_) (fun g => absurd (by decide) g)
  refine fm_aload_n hc d_An_start_29 rfl rfl ?_
  refine fm_getR (k := 2) (q := 15) hc K_An d_An_start_30 q_357 rfl (by decide) (by omega) (by decide) (by decide) (by decide) rfl (ap_2 hA) ?_
  refine fm_iload_n hc d_An_start_33 rfl rfl ?_
  refine fm_aald (q := 90 + 124 * j) (j := j) (len := 4) hc 5 d_An_start_34 (by decide) (by omega) (by decide) (by decide) rfl (by omega) (by decide) (ap_site hA hj) ?_
  refine fm_callV (av := []) (rest := []) (ob := 90 + 124 * j) (ci := 8) (r0 := ("AgentNet$Site", F_Si, 6)) (y := y_Si_comeUp) (bytes := b_Si_comeUp) hc fm_T0_good (fm_EX_st b x) hex q_818 q_10 q_815 q_816 q_817 pd_Si_comeUp (by omega) (by omega) (ly_Si hj) (by decide) rfl rfl (c_comeUp hn hM hMo hP hPo hj hs3 hs4 hne h hw) ⟨rfl, rfl, Nat.le_of_ble_eq_true rfl, Nat.le_of_ble_eq_true rfl⟩ ⟨Nat.le_of_ble_eq_true rfl, Nat.le_of_ble_eq_true rfl⟩ d_An_start_35 (Nat.le_of_ble_eq_true rfl) (fun r n2 M2 hp => ?_)
  obtain ⟨rfl, hq1, r1, r2, r3⟩ := hp
  replace hq1 := hq1.symm
  subst hq1
  revert r1 r2 r3
  generalize M2 = Mz
  intro r1 r2 r3
  refine fm_cnt (z' := (0, 0)) rfl (fm_st (st' := []) rfl ?_)
  refine fm_iconst (v := nI 1) hc d_An_start_38 rfl ?_
  exact fx_ret (fm_zret (ty := .boolean) hc hr (by first | rfl | decide) d_An_start_39 (Nat.le_of_ble_eq_true rfl) (Nat.le_of_ble_eq_true rfl) ⟨rfl, rfl, r1, r2, r3⟩)
