/-! THE CLASS: follow; launch entire -/
def ag_new (a p f : Nat) : ag_T := (fun k => if k = 0 then a else if k = 1 then p else if k = 3 then f else 0, [], [])
theorem new_wf {a p f : Nat} (hp : p < 4) (hf : f ≤ 200) : ag_wf a (ag_new a p f) := by
  refine ⟨⟨Nat.zero_le _, Nat.zero_le _, fun v (hv : v ∈ ([] : List bf_V)) => (List.not_mem_nil hv).elim, fun q (hq : q ∈ ([] : List (bf_V × bf_V))) => (List.not_mem_nil hq).elim⟩, rfl, rfl, hp, (show 0 < 256 by decide), ?_, Nat.zero_le _, Nat.zero_le _, Nat.zero_le _⟩
  show 0 + f ≤ 200
  omega
def fo_2 (sc : List Nat) (tb : Nat → Nat → Int32) (c : fa_C) : Option (List Int32) := match c with
  | none => none
  | some (K, h) => some (fa_run sc tb 200 K h [] none).1
def fo_C (C : Nat → Nat) (a : Nat) (w1 : List Int32) (w2 : Option (List Int32)) : Nat → Nat := match w2 with
  | none => va_up C a w1.length
  | some w => va_up (va_up C a w1.length) (a + 4) w.length
def fo_V (V : Nat → Nat → Int32) (a : Nat) (w1 : List Int32) (w2 : Option (List Int32)) : Nat → Nat → Int32 := match w2 with
  | none => va_up V a (fun i => w1.getD i 0)
  | some w => va_up (va_up V a (fun i => w1.getD i 0)) (a + 4) (fun i => w.getD i 0)
def fo_M (mt : Nat → Nat) (a : Nat) (w2 : Option (List Int32)) : Nat → Nat := match w2 with
  | none => va_up mt a 1
  | some _ => va_up (va_up mt a 1) (a + 4) 1
theorem c_follow {l : Launch} {b : Nat} {x : Nat → Nat} {D : va_G} {dA : Nat → ClassId} {a p0 j q n : Nat} {A0 : ag_T} {sc : List Nat} {tb : Nat → Nat → Int32} {C mt : Nat → Nat} {V0 : Nat → Nat → Int32} {M : fm_M} (hn : 586 ≤ n) (hA : fm_AP M) (hN : fm_NP M) (hF : fp_F M) (hj : j < 4) (ha4 : a < 4) (gT : tr_L n q) (g90 : 90 ≤ q) (gP : tr_P M q) (h : hc_A M q A0) (hw : ag_wf a A0) (h1 : A0.1 1 = p0) (hp0 : p0 < 4) (hs : hs_S M p0 sc) (htb : ∀ q, q < 4 → ∀ k, k < 8 → M.1 (11 + q) k = tb q k) (h5 : A0.1 5 = 0) (h7 : A0.1 7 = 0) (hl : hc_L M 70 C V0) (hC : C a = 0) (hC4 : C (a + 4) = 0) (hmt : ∀ c, c < 8 → M.1 73 c = nI (mt c)) : Met l y_Fr_follow (Cond.code y_Fr_follow b_Fr_follow 6 none :: fm_T0) ({ frames := 8, cells := 0, slots := 0, locals := 370 }) (fm_Pc fm_lay fm_nf fm_fk fm_cl b x D dA (fm_tys dA) (fm_EX b x) false [.ref 69, .ref q, .int (nI j), .ref 60, .ref 9, .ref 10] n M) (fm_Qc fm_lay fm_nf fm_fk fm_cl b x D dA (fun r n' M' => r = none ∧ n' = n ∧ hc_L M' 70 (fo_C C a (fa_run sc tb 200 A0 j [] none).1 (fo_2 sc tb (fa_run sc tb 200 A0 j [] none).2)) (fo_V V0 a (fa_run sc tb 200 A0 j [] none).1 (fo_2 sc tb (fa_run sc tb 200 A0 j [] none).2)) ∧ (∀ c, c < 8 → M'.1 73 c = nI (fo_M mt a (fo_2 sc tb (fa_run sc tb 200 A0 j [] none).2) c)) ∧ fr_X M M')) 0 0 (fm_A b) := by
  refine fm_enter (by decide) (Nat.le_of_ble_eq_true rfl) ?_
  intro p e s m args below meth c9 hc hr hnm hex htg
  have g8 := gT.1
  have gn := gT.2.1
  have b7 : M.1 q 7 = 0 ∨ M.1 q 7 = 1 := by
    rw [h.1 7 (by decide), h7]
    exact Or.inl rfl
  refine fm_aload_n hc d_Fr_follow_0 rfl rfl ?_
  refine fm_getR (k := 2) (q := 74) hc K_Fr d_Fr_follow_1 q_260 rfl (by decide) (by omega) (by decide) (by decide) (by decide) rfl hF.2.2.1 ?_
  refine fm_aload_n hc d_Fr_follow_4 rfl rfl ?_
  refine fm_callV (av := [.ref q]) (rest := []) (ob := 74) (ci := 5) (r0 := ("AgentNet$Traveller", F_Tr, 13)) (y := y_Tr_copyFrom) (bytes := b_Tr_copyFrom) hc fm_T0_good (fm_EX_st b x) hex q_583 q_8 q_580 q_581 q_582 pd_Tr_copyFrom (by decide) (by omega) (by decide) (by decide) rfl rfl (c_trc (o := 74) (q := q) (by decide) (by omega) (by omega) (by omega) (by omega) (trL_74 hn).2.2.1 (trL_74 hn).2.2.2.1 (trL_74 hn).2.2.2.2.1 (trL_74 hn).2.2.2.2.2 (by omega) (by omega) (by omega) (by omega) (by omega) gT.2.2.1 gT.2.2.2.1 gT.2.2.2.2.1 gT.2.2.2.2.2 (by omega) hF.2.2.2.2.2.1.1 hF.2.2.2.2.2.1.2.1 hF.2.2.2.2.2.1.2.2 gP.1 gP.2.1 gP.2.2 b7 h.2.1 hw.1.1 h.2.2.1 hw.1.2.1) ⟨rfl, rfl, Nat.le_of_ble_eq_true rfl, Nat.le_of_ble_eq_true rfl⟩ ⟨Nat.le_of_ble_eq_true rfl, Nat.le_of_ble_eq_true rfl⟩ d_Fr_follow_5 (Nat.le_of_ble_eq_true rfl) (fun r n2 M2 hp => ?_)
  obtain ⟨rfl, hq1, hq2⟩ := hp
  replace hq1 := hq1.symm
  subst hq1
  have r1 : hc_A M2 74 A0 := by rw [hq2]; exact hcA_trc (by omega) h
  have r2 : ft_T 74 M M2 := by rw [hq2]; exact ftT_trc
  clear hq2
  revert r1 r2
  generalize M2 = Ma
  intro r1 r2
  have x1 : fr_X M Ma := ⟨r2.1, fun z b => ⟨r2.2.1 z (by omega), r2.2.2 z (by omega) (by omega) (by omega)⟩⟩
  have hAa := AP_of x1.1 hA
  have hFa := fpF_of x1.1 hF
  have la : hc_L Ma 70 C V0 := hcL_of (r2.2.1 71 (by decide)) (r2.2.1 72 (by decide)) hl
  refine fm_cnt (z' := (0, 0)) rfl (fm_st (st' := []) rfl ?_)
  refine fm_aload_n hc d_Fr_follow_8 rfl rfl ?_
  refine fm_aload_n hc d_Fr_follow_9 rfl rfl ?_
  refine fm_getR (k := 2) (q := 74) hc K_Fr d_Fr_follow_10 q_260 rfl (by decide) (by omega) (by decide) (by decide) (by decide) rfl hFa.2.2.1 ?_
  refine fm_iload_n hc d_Fr_follow_13 rfl rfl ?_
  refine fm_aload_n hc d_Fr_follow_14 rfl rfl ?_
  refine fm_aload hc d_Fr_follow_15 rfl ?_
  refine fm_aload_n hc d_Fr_follow_17 rfl rfl ?_
  refine fm_getR (k := 2) (q := 74) hc K_Fr d_Fr_follow_18 q_260 rfl (by decide) (by omega) (by decide) (by decide) (by decide) rfl hFa.2.2.1 ?_
  refine fm_getI (k := 1) hc K_Tr d_Fr_follow_21 q_177 rfl (by decide) (by omega) (by decide) (by decide) (by decide) rfl ?_
  refine fm_top (congrArg Value.int (show Ma.1 74 1 = nI p0 from ((r1.1 1 (by decide)).trans (congrArg nI h1)))) ?_
  refine fm_aald (q := 82 + 2 * p0) (j := p0) (len := 4) hc 4 d_Fr_follow_24 (by decide) (by omega) (by decide) (by decide) rfl (by omega) (by decide) (ap_scr hAa hp0) ?_
  refine fm_aload hc d_Fr_follow_25 rfl ?_
  refine fm_callV (av := [.ref 74, .int (nI j), .ref 60, .ref (82 + 2 * p0), .ref 10]) (rest := []) (ob := 69) (ci := 7) (r0 := ("AgentNet$FreeRun", F_Fr, 5)) (y := y_Fr_runAlone) (bytes := b_Fr_runAlone) hc fm_T0_good (fm_EX_st b x) hex q_590 q_7 q_587 q_589 qs_Fr_runAlone pd_Fr_runAlone (by decide) (by omega) (by decide) (by decide) rfl rfl (c_frun (tr := 74) (a := a) (p0 := p0) (j := j) (sc := sc) (tb := tb) (C := C) (V0 := V0) hn hAa (NP_of x1.1 hN) hFa hj (Or.inl ⟨rfl, ha4⟩) r1 hw h1 hp0 (hsS_X hp0 x1 hs) (fun z hz k hk => by rw [(x1.2 (11 + z) (by omega)).1]; exact htb z hz k hk) h5 h7 la hC) ⟨rfl, rfl, Nat.le_of_ble_eq_true rfl, Nat.le_of_ble_eq_true rfl⟩ ⟨Nat.le_of_ble_eq_true rfl, Nat.le_of_ble_eq_true rfl⟩ d_Fr_follow_27 (Nat.le_of_ble_eq_true rfl) (fun r n2 M2 hp => ?_)
  obtain ⟨rfl, hq1, t1, t2, t3, t4, t5, t6⟩ := hp
  replace hq1 := hq1.symm
  subst hq1
  revert t1 t2 t3 t4 t5 t6
  generalize M2 = Mb
  intro t1 t2 t3 t4 t5 t6
  have x2 := frX_tr x1 t6
  have hAb := AP_of x2.1 hA
  have hFb := fpF_of x2.1 hF
  have m1 : ∀ c, c < 8 → Mb.1 73 c = nI (va_up mt a 1 c) := fun c hc => by
    by_cases g : c = a
    · subst g; rw [fm_upS]; exact t2
    · rw [fm_upN g, t3 c g, r2.2.1 73 (by decide)]; exact hmt c hc
  have c7 := t4 ha4
  refine fm_cnt (z' := (0, 0)) rfl (fm_st (st' := []) rfl ?_)
  generalize (fa_run sc tb 200 A0 j [] none) = RR at *
  obtain ⟨w1, c1⟩ := RR
  cases hc1 : c1 with
  | none =>
    subst hc1
    have c7 : Mb.1 74 7 = nI 0 := c7
    refine fm_aload_n hc d_Fr_follow_30 rfl rfl ?_
    refine fm_getR (k := 2) (q := 74) hc K_Fr d_Fr_follow_31 q_260 rfl (by decide) (by omega) (by decide) (by decide) (by decide) rfl hFb.2.2.1 ?_
    refine fm_getI (k := 7) hc K_Tr d_Fr_follow_34 q_205 rfl (by decide) (by omega) (by decide) (by decide) (by decide) rfl ?_
    refine fm_top (congrArg Value.int (show Mb.1 74 7 = nI 0 from c7)) ?_
    refine fm_if_eq (tgt := 65) hc d_Fr_follow_37 rfl (fun _ => ?_) (fun gQ => absurd (by decide) gQ)
    exact fm_vret hc hr d_Fr_follow_65 (Nat.le_refl _) (Nat.le_refl _) ⟨rfl, rfl, t1, m1, x2⟩
  | some kh =>
    subst hc1
    obtain ⟨K, h'⟩ := kh
    have c7 : Mb.1 74 7 = nI 1 := c7
    obtain ⟨-, k1, k2, k3, k4, k5, k6, k7⟩ := t5 K h' rfl
    refine fm_aload_n hc d_Fr_follow_30 rfl rfl ?_
    refine fm_getR (k := 2) (q := 74) hc K_Fr d_Fr_follow_31 q_260 rfl (by decide) (by omega) (by decide) (by decide) (by decide) rfl hFb.2.2.1 ?_
    refine fm_getI (k := 7) hc K_Tr d_Fr_follow_34 q_205 rfl (by decide) (by omega) (by decide) (by decide) (by decide) rfl ?_
    refine fm_top (congrArg Value.int (show Mb.1 74 7 = nI 1 from c7)) ?_
    refine fm_if_eq (tgt := 65) hc d_Fr_follow_37 rfl (fun gQ => absurd gQ (by decide)) (fun _ => ?_)
    refine fm_aload_n hc d_Fr_follow_40 rfl rfl ?_
    refine fm_aload_n hc d_Fr_follow_41 rfl rfl ?_
    refine fm_getR (k := 3) (q := 78) hc K_Fr d_Fr_follow_42 q_261 rfl (by decide) (by omega) (by decide) (by decide) (by decide) rfl hFb.2.2.2.1 ?_
    refine fm_aload_n hc d_Fr_follow_45 rfl rfl ?_
    refine fm_getI (k := 4) hc K_Fr d_Fr_follow_46 q_262 rfl (by decide) (by omega) (by decide) (by decide) (by decide) rfl ?_
    refine fm_top (congrArg Value.int (show Mb.1 69 4 = nI h' from k2)) ?_
    refine fm_aload_n hc d_Fr_follow_49 rfl rfl ?_
    refine fm_aload hc d_Fr_follow_50 rfl ?_
    refine fm_aload_n hc d_Fr_follow_52 rfl rfl ?_
    refine fm_getR (k := 3) (q := 78) hc K_Fr d_Fr_follow_53 q_261 rfl (by decide) (by omega) (by decide) (by decide) (by decide) rfl hFb.2.2.2.1 ?_
    refine fm_getI (k := 1) hc K_Tr d_Fr_follow_56 q_177 rfl (by decide) (by omega) (by decide) (by decide) (by decide) rfl ?_
    refine fm_top (congrArg Value.int (show Mb.1 78 1 = nI p0 from ((k1.1 1 (by decide)).trans (congrArg nI k5)))) ?_
    refine fm_aald (q := 82 + 2 * p0) (j := p0) (len := 4) hc 4 d_Fr_follow_59 (by decide) (by omega) (by decide) (by decide) rfl (by omega) (by decide) (ap_scr hAb hp0) ?_
    refine fm_aload hc d_Fr_follow_60 rfl ?_
    refine fm_callV (av := [.ref 78, .int (nI h'), .ref 60, .ref (82 + 2 * p0), .ref 10]) (rest := []) (ob := 69) (ci := 7) (r0 := ("AgentNet$FreeRun", F_Fr, 5)) (y := y_Fr_runAlone) (bytes := b_Fr_runAlone) hc fm_T0_good (fm_EX_st b x) hex q_590 q_7 q_587 q_589 qs_Fr_runAlone pd_Fr_runAlone (by decide) (by omega) (by decide) (by decide) rfl rfl (c_frun (tr := 78) (a := a + 4) (p0 := p0) (j := h') (sc := sc) (tb := tb) (C := va_up C a w1.length) (V0 := va_up V0 a (fun i => w1.getD i 0)) hn hAb (NP_of x2.1 hN) hFb k3 (Or.inr ⟨rfl, by omega, by omega⟩) k1 k4 k5 hp0 (hsS_X hp0 x2 hs) (fun z hz k hk => by rw [(x2.2 (11 + z) (by omega)).1]; exact htb z hz k hk) k6 k7 t1 (by rw [fm_upN (by omega)]; exact hC4)) ⟨rfl, rfl, Nat.le_of_ble_eq_true rfl, Nat.le_of_ble_eq_true rfl⟩ ⟨Nat.le_of_ble_eq_true rfl, Nat.le_of_ble_eq_true rfl⟩ d_Fr_follow_62 (Nat.le_of_ble_eq_true rfl) (fun r n2 M2 hp => ?_)
    obtain ⟨rfl, hq1, v1, v2, v3, -, -, v6⟩ := hp
    replace hq1 := hq1.symm
    subst hq1
    revert v1 v2 v3 v6
    generalize M2 = Mc
    intro v1 v2 v3 v6
    refine fm_cnt (z' := (0, 0)) rfl (fm_st (st' := []) rfl ?_)
    exact fm_vret hc hr d_Fr_follow_65 (Nat.le_refl _) (Nat.le_refl _) ⟨rfl, rfl, v1, fun c hc => (by
      show Mc.1 73 c = nI (va_up (va_up mt a 1) (a + 4) 1 c)
      by_cases g : c = a + 4
      · subst g; rw [fm_upS]; exact v2
      · rw [fm_upN g, v3 c g]; exact m1 c hc), frX_tr x2 v6⟩
theorem begin_hc {o a p f : Nat} {M : fm_M} : hc_A (m_begin M o (nI a) (nI p) (nI f)) o (ag_new a p f) := by
  unfold m_begin
  refine ⟨fun k hk => ?_, by simp [fm_put1, va_up, ag_new], by simp [fm_put1, va_up, ag_new], fun k v hv => by simp [ag_new] at hv, fun k v hv => by simp [ag_new] at hv⟩
  rcases (show k = 0 ∨ k = 1 ∨ k = 2 ∨ k = 3 ∨ k = 4 ∨ k = 5 ∨ k = 6 ∨ k = 7 by omega) with rfl | rfl | rfl | rfl | rfl | rfl | rfl | rfl <;> simp [fm_put1, va_up, ag_new]
theorem begin_fr {o q : Nat} {M : fm_M} {u v w : Int32} (h : q ≠ o) : (m_begin M o u v w).1 q = M.1 q := by
  funext i
  simp [m_begin, fm_put1, va_up, h]
def am_lau (a : Nat) (A : ag_T) : am_T → am_T := fun (S, K, O, T, G, H, V, D) => (va_up S a 1, va_up K a 0, va_up O a (-1), T, va_up G a A, H, V, D)
theorem x_launch_all {l : Launch} {b : Nat} {x : Nat → Nat} {D : va_G} {dA : Nat → ClassId} (htr : l.stackTraces = false) {a p0 f j mm n : Nat} {m0 : am_T} {sc : List Nat} {tb : Nat → Nat → Int32} {C mt : Nat → Nat} {V0 : Nat → Nat → Int32} {M : fm_M} (hn : 586 ≤ n) (hA : fm_AP M) (hN : fm_NP M) (hF : fp_F M) (hj : j < 4) (ha4 : a < 4) (hp0 : p0 < 4) (hf1 : 1 ≤ f) (hf2 : f ≤ 200) (hL : M.1 8 7 = nI a) (hu : ¬ M.1 (90 + 124 * j) 1 = 0) (hM : fm_isM mm) (hm : M.2.2 (90 + 124 * j) 3 = some mm) (hP : fm_MP M mm) (h : hc_M M mm m0) (hK : m0.2.1 a = -1) (hO : m0.2.2.1 a = -1) (hs : hs_S M p0 sc) (htb : ∀ q, q < 4 → ∀ k, k < 8 → M.1 (11 + q) k = tb q k) (hl : hc_L M 70 C V0) (hC : C a = 0) (hC4 : C (a + 4) = 0) (hmt : ∀ c, c < 8 → M.1 73 c = nI (mt c)) : MetFree l y_An_launch (headSpec (Cond.code y_An_launch b_An_launch 6 (some .int) :: fm_T0) ({ frames := 10, cells := 1, slots := 6, locals := 400 })) (fm_Pc fm_lay fm_nf fm_fk fm_cl b x D dA (fm_tys dA) (fm_EX b x) false [.ref 8, .int (nI j), .int (nI p0), .int (nI f)] n M) (fun _ _ _ _ _ => True) (fx_Q fm_lay fm_nf fm_fk fm_cl b x D dA (fun r n' M' => r = some (.int (nI a)) ∧ n' = n ∧ hc_M M' mm (am_lau a (ag_new a p0 f) m0) ∧ M'.1 8 7 = nI (a + 1) ∧ hc_L M' 70 (fo_C C a (fa_run sc tb 200 (ag_new a p0 f) j [] none).1 (fo_2 sc tb (fa_run sc tb 200 (ag_new a p0 f) j [] none).2)) (fo_V V0 a (fa_run sc tb 200 (ag_new a p0 f) j [] none).1 (fo_2 sc tb (fa_run sc tb 200 (ag_new a p0 f) j [] none).2)) ∧ (∀ c, c < 8 → M'.1 73 c = nI (fo_M mt a (fo_2 sc tb (fa_run sc tb 200 (ag_new a p0 f) j [] none).2) c)) ∧ M'.2.2 = M.2.2 ∧ (∀ i, i ≠ 7 → M'.1 8 i = M.1 8 i) ∧ ∀ q, q ≠ 8 → (q < mm ∨ mm + 41 ≤ q) → (q < 60 ∨ (66 ≤ q ∧ q ≤ 68) ∨ 82 ≤ q) → M'.1 q = M.1 q ∧ M'.2.1 q = M.2.1 q) (fun _ _ _ => False) 1 6) := by
  have hlo := isM_lo hM
  have ha8 : a < 8 := by omega
  obtain ⟨S1, K1, O1, T1, G1, H1, V1, D1⟩ := m0
  have hK : K1 a = -1 := hK
  have hO : O1 a = -1 := hO
  have eO : va_up O1 a (-1) = O1 := va_same hO
  obtain ⟨h1, h2, h3, h4, h5, h6, h7⟩ := h
  obtain ⟨MZ, eZ⟩ : ∃ MZ, MZ = m_settle (m_begin (fm_put1 M 8 7 (nI (a + 1))) (mm + (9 + 4 * a)) (nI a) (nI p0) (nI f)) mm a (nI 0) := ⟨_, rfl⟩
  have zf : ∀ q i, q ≠ 8 → q ≠ (mm + (9 + 4 * a)) → ¬ (q = mm + 1 ∧ i = a) → ¬ (q = mm + 2 ∧ i = a) → MZ.1 q i = M.1 q i := by
    intro q i b1 b2 b3 b4
    rw [eZ]
    unfold m_settle
    have c1 : ∀ (Mx : fm_M) (v : Int32), (fm_put1 Mx (mm + 2) a v).1 q i = Mx.1 q i := fun Mx v => by
      by_cases g : q = mm + 2
      · subst g; exact p1_at (by omega)
      · exact p1_other g
    have c2 : ∀ (Mx : fm_M) (v : Int32), (fm_put1 Mx (mm + 1) a v).1 q i = Mx.1 q i := fun Mx v => by
      by_cases g : q = mm + 1
      · subst g; exact p1_at (by omega)
      · exact p1_other g
    rw [c1, c2, begin_fr b2]
    exact p1_other b1
  have z8 : ∀ i, MZ.1 8 i = (fm_put1 M 8 7 (nI (a + 1))).1 8 i := fun i => by
    rw [eZ]
    unfold m_settle
    rw [p1_other (by omega), p1_other (by omega), begin_fr (by omega)]
  have z2 : MZ.2 = M.2 := by rw [eZ]; rfl
  have zs : MZ.1 (mm + 1) a = nI 1 := by
    rw [eZ]
    unfold m_settle
    rw [p1_other (by omega), p1_same]
  have zk : MZ.1 (mm + 2) a = 0 := by
    rw [eZ]
    unfold m_settle
    rw [p1_same, p1_other (by omega), begin_fr (by omega), p1_other (by omega), h2 a ha8, hK]
    rfl
  have zA : hc_A MZ (mm + (9 + 4 * a)) (ag_new a p0 f) := by
    rw [eZ]
    unfold m_settle
    exact hcA_o1 (by omega) (hcA_o1 (by omega) begin_hc)
  have zM : hc_M MZ mm (am_lau a (ag_new a p0 f) (S1, K1, O1, T1, G1, H1, V1, D1)) := by
    refine ⟨fun c hc => ?_, fun c hc => ?_, fun c hc => ?_, fun c hc => ?_, fun c hc => ?_, fun c i hc hi => ?_, fun c hc hs => ?_⟩
    · by_cases g : c = a
      · subst g; rw [fm_upS]; exact zs
      · rw [fm_upN g, zf _ _ (by omega) (by omega) (by omega) (by omega)]; exact h1 c hc
    · by_cases g : c = a
      · subst g; rw [fm_upS]; exact zk
      · rw [fm_upN g, zf _ _ (by omega) (by omega) (by omega) (by omega)]; exact h2 c hc
    · rw [eO, zf _ _ (by omega) (by omega) (by omega) (by omega)]; exact h3 c hc
    · rw [zf _ _ (by omega) (by omega) (by omega) (by omega)]; exact h4 c hc
    · rw [zf _ _ (by omega) (by omega) (by omega) (by omega)]; exact h5 c hc
    · rw [zf _ _ (by omega) (by omega) (by omega) (by omega)]; exact h6 c i hc hi
    · by_cases g : c = a
      · subst g; rw [fm_upS]; exact zA
      · rw [fm_upN g] at hs ⊢
        exact hcA_eq (funext fun i => zf _ _ (by omega) (by omega) (by omega) (by omega)) z2 (h7 c hc hs)
  have zR : MZ.2.2 = M.2.2 := by rw [z2]
  have zq : ∀ q, q ≠ 8 → (q < mm ∨ mm + 41 ≤ q) → MZ.1 q = M.1 q := fun q b1 b2 => funext fun i => zf _ _ b1 (by omega) (by omega) (by omega)
  have hfol := c_follow (l := l) (b := b) (x := x) (D := D) (dA := dA) (n := n) (M := MZ) (a := a) (p0 := p0) (j := j) (q := (mm + (9 + 4 * a))) (A0 := ag_new a p0 f) (sc := sc) (tb := tb) (C := C) (mt := mt) (V0 := V0) hn (AP_of zR hA) (NP_of zR hN) (fpF_of zR hF) hj ha4 (isM_trL hM ha8 hn) (by omega) (isM_trP (MP_of zR hP) ha8) zA (new_wf hp0 hf2) rfl hp0 (by
    have q := hs
    unfold hs_S at q ⊢
    rw [zR, zq (82 + 2 * p0) (by omega) (by omega), zq (83 + 2 * p0) (by omega) (by omega)]
    exact q) (fun z hz k hk => by rw [zq (11 + z) (by omega) (by omega)]; exact htb z hz k hk) rfl rfl (hcL_of (zq 71 (by omega) (by omega)) (zq 72 (by omega) (by omega)) hl) hC hC4 (fun c hc => by rw [zq 73 (by omega) (by omega)]; exact hmt c hc)
  rw [eZ] at hfol
  refine x_launch_go (P := fun M' => hc_M M' mm (am_lau a (ag_new a p0 f) (S1, K1, O1, T1, G1, H1, V1, D1)) ∧ M'.1 8 7 = nI (a + 1) ∧ hc_L M' 70 (fo_C C a (fa_run sc tb 200 (ag_new a p0 f) j [] none).1 (fo_2 sc tb (fa_run sc tb 200 (ag_new a p0 f) j [] none).2)) (fo_V V0 a (fa_run sc tb 200 (ag_new a p0 f) j [] none).1 (fo_2 sc tb (fa_run sc tb 200 (ag_new a p0 f) j [] none).2)) ∧ (∀ c, c < 8 → M'.1 73 c = nI (fo_M mt a (fo_2 sc tb (fa_run sc tb 200 (ag_new a p0 f) j [] none).2) c)) ∧ M'.2.2 = M.2.2 ∧ (∀ i, i ≠ 7 → M'.1 8 i = M.1 8 i) ∧ ∀ q, q ≠ 8 → (q < mm ∨ mm + 41 ≤ q) → (q < 60 ∨ (66 ≤ q ∧ q ≤ 68) ∨ 82 ≤ q) → M'.1 q = M.1 q ∧ M'.2.1 q = M.2.1 q) htr hn hA hj hp0 ha4 ⟨hnltB (a := f) (c := 1) hf1 (by omega), nI_le hf2 (by omega)⟩ hL hu hM hm hP (fm_post hfol (fun r n' M' q => ⟨q.1, q.2.1, ?_⟩))
  obtain ⟨-, -, q3, q4, q5⟩ := q
  rw [← eZ] at q5
  exact ⟨hcM_of (fun z b1 b2 => (q5.2 z (by omega)).1) (fun z b1 b2 => (q5.2 z (by omega)).2) zM, by rw [(q5.2 8 (by omega)).1, z8]; exact p1_same _ _ _ _, q3, q4, q5.1.trans zR, fun i hi => by rw [(q5.2 8 (by omega)).1, z8]; exact p1_at hi, fun z b1 b2 b3 => ⟨(q5.2 z b3).1.trans (zq z b1 b2), by rw [(q5.2 z b3).2, z2]⟩⟩
