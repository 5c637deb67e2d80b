/-! THE CLASS: a message comes to a host; net entire -/
def dv_M (m0 : mg_T) (A : ag_T) : am_T → am_T := fun (S, K, O, T, G, H, V, D) =>
  if m0.1 = 1 then (if S m0.2.1 = 2 ∧ nI ((G m0.2.1).1 4) = m0.2.2.1 then (va_up S m0.2.1 0, K, O, T, G, H, V, D) else (S, K, O, T, G, H, V, D))
  else if K m0.2.1 < m0.2.2.1 then (va_up S m0.2.1 1, va_up K m0.2.1 m0.2.2.1, va_up O m0.2.1 m0.2.2.2.1, T, va_up G m0.2.1 A, H, V, D) else (S, K, O, T, G, H, V, D)
def dv_W (j : Nat) (m0 : mg_T) (m s : am_T) (ms : List mg_T) : List mg_T := if m0.1 = 1 then ms else if m.2.1 m0.2.1 < m0.2.2.1 then ms else if s.2.1 m0.2.1 < m0.2.2.1 then ms else wi_send ms (1, m0.2.1, m0.2.2.1, nI j, m0.2.2.2.1, [])
theorem hcW_c {o : Nat} {M M' : fm_M} {w : Nat → Nat} {ms : List mg_T} (hp : wi_P M w) (ho : ∃ u, o = 18 + 2 * u) (f : ∀ q j, 16 ≤ q → q < 60 → ¬ (q = o ∧ j = 6) → M'.1 q j = M.1 q j) (h : hc_W M w ms) : hc_W M' w ms := by
  obtain ⟨u, hu⟩ := ho
  refine ⟨(f _ _ (by omega) (by omega) (by omega)).trans h.1, h.2.1, fun k m hk => ?_⟩
  have hk' : k < ms.length := (List.getElem?_eq_some_iff.mp hk).1
  have h20 := h.2.1
  have hw := hp.2.2.2.1 k (by omega)
  obtain ⟨a0, a1, a2, a3, a4, a5, a6⟩ := h.2.2 k m hk
  exact ⟨(f _ _ (by omega) (by omega) (by omega)).trans a0, (f _ _ (by omega) (by omega) (by omega)).trans a1, (f _ _ (by omega) (by omega) (by omega)).trans a2, (f _ _ (by omega) (by omega) (by omega)).trans a3, (f _ _ (by omega) (by omega) (by omega)).trans a4, (f _ _ (by omega) (by omega) (by omega)).trans a5, fun i v hv => (f _ _ (by omega) (by omega) (by omega)).trans (a6 i v hv)⟩
theorem hcM_slot0 {mm a : Nat} {M : fm_M} {S : Nat → Nat} {K O T : Nat → Int32} {G : Nat → ag_T} {H : Nat → Int32} {V : Nat → Nat → Int32} {D : Nat → Nat} (h : hc_M M mm (S, K, O, T, G, H, V, D)) : hc_M (fm_put1 M (mm + 1) a (nI 0)) mm (va_up S a 0, K, O, T, G, H, V, D) := by
  obtain ⟨h1, h2, h3, h4, h5, h6, h7⟩ := h
  refine ⟨fun c hc => ?_, fun a ha => (p1_other (by omega)).trans (h2 a ha), fun a ha => (p1_other (by omega)).trans (h3 a ha), fun a ha => (p1_other (by omega)).trans (h4 a ha), fun a ha => (p1_other (by omega)).trans (h5 a ha), fun a i ha hi => (p1_other (by omega)).trans (h6 a i ha hi), fun c hc hs => ?_⟩
  · by_cases g : c = a
    · subst g
      rw [p1_same, fm_upS]
    · rw [p1_at g, fm_upN g]
      exact h1 c hc
  · by_cases g : c = a
    · subst g
      rw [fm_upS] at hs
      exact absurd rfl hs
    · rw [fm_upN g] at hs
      exact hcA_o1 (by omega) (h7 c hc hs)
theorem hcM_come {mm a : Nat} {M M1 M' : fm_M} {S : Nat → Nat} {K O T : Nat → Int32} {G : Nat → ag_T} {H : Nat → Int32} {V : Nat → Nat → Int32} {D : Nat → Nat} {A : ag_T} {v f : Int32} (h : hc_M M mm (S, K, O, T, G, H, V, D)) (hA : hc_A M1 (mm + (9 + 4 * a)) A) (f1 : ∀ q j, mm ≤ q → q < mm + 41 → q ≠ mm + (9 + 4 * a) → M1.1 q j = M.1 q j) (f2 : ∀ q, mm ≤ q → q < mm + 41 → q ≠ mm + (9 + 4 * a) + 1 → q ≠ mm + (9 + 4 * a) + 2 → q ≠ mm + (9 + 4 * a) + 3 → M1.2.1 q = M.2.1 q) (hM : M' = fm_put1 (fm_put1 (fm_put1 M1 (mm + 1) a (nI 1)) (mm + 2) a v) (mm + 3) a f) : hc_M M' mm (va_up S a 1, va_up K a v, va_up O a f, T, va_up G a A, H, V, D) := by
  obtain ⟨h1, h2, h3, h4, h5, h6, h7⟩ := h
  subst hM
  refine ⟨fun c hc => ?_, fun c hc => ?_, fun c hc => ?_, fun c hc => ?_, fun c hc => ?_, fun c i hc hi => ?_, fun c hc hs => ?_⟩
  · rw [p1_other (by omega), p1_other (by omega)]
    by_cases g : c = a
    · subst g
      rw [p1_same, fm_upS]
    · rw [p1_at g, fm_upN g, f1 _ _ (by omega) (by omega) (by omega)]
      exact h1 c hc
  · rw [p1_other (by omega)]
    by_cases g : c = a
    · subst g
      rw [p1_same, fm_upS]
    · rw [p1_at g, fm_upN g, p1_other (by omega), f1 _ _ (by omega) (by omega) (by omega)]
      exact h2 c hc
  · by_cases g : c = a
    · subst g
      rw [p1_same, fm_upS]
    · rw [p1_at g, fm_upN g, p1_other (by omega), p1_other (by omega), f1 _ _ (by omega) (by omega) (by omega)]
      exact h3 c hc
  · rw [p1_other (by omega), p1_other (by omega), p1_other (by omega), f1 _ _ (by omega) (by omega) (by omega)]
    exact h4 c hc
  · rw [p1_other (by omega), p1_other (by omega), p1_other (by omega), f1 _ _ (by omega) (by omega) (by omega)]
    exact h5 c hc
  · rw [p1_other (by omega), p1_other (by omega), p1_other (by omega), f1 _ _ (by omega) (by omega) (by omega)]
    exact h6 c i hc hi
  · refine hcA_o1 (by omega) (hcA_o1 (by omega) (hcA_o1 (by omega) ?_))
    by_cases g : c = a
    · subst g
      rw [fm_upS]
      exact hA
    · rw [fm_upN g] at hs ⊢
      have h := h7 c hc hs
      unfold hc_A at *
      rw [show M1.1 (mm + (9 + 4 * c)) = M.1 (mm + (9 + 4 * c)) from funext fun i => f1 _ _ (by omega) (by omega) (by omega), f2 _ (by omega) (by omega) (by omega) (by omega) (by omega), f2 _ (by omega) (by omega) (by omega) (by omega) (by omega), f2 _ (by omega) (by omega) (by omega) (by omega) (by omega)]
      exact h
theorem c_leaW0 {l : Launch} {b : Nat} {x : Nat → Nat} {D : va_G} {dA : Nat → ClassId} {mm a sl : Nat} {v : Int32} {n : Nat} {M : fm_M} (hn : 586 ≤ n) (hM : fm_isM mm) (hP : fm_MP M mm) (ha : a < 8) (hs : M.1 (mm + 1) a = nI sl) (hs4 : sl ≤ 4) (h0 : ¬ sl = 2) : Met l y_Me_isLeaving (Cond.code y_Me_isLeaving b_Me_isLeaving 3 (some .boolean) :: fm_T0) ({ frames := 0, cells := 0, slots := 0, locals := 0 }) (fm_Pc fm_lay fm_nf fm_fk fm_cl b x D dA (fm_tys dA) (fm_EX b x) false [.ref mm, .int (nI a), .int v] n M) (fm_Qc fm_lay fm_nf fm_fk fm_cl b x D dA (fun r n' M' => r = some (.int (nI 0)) ∧ n' = n ∧ M' = M)) 0 0 (fm_A b) := by
  refine fm_enter (by decide) (Nat.le_of_ble_eq_true rfl) ?_
  intro p e s m args below meth c9 hc hr hnm hex htg
  have hlo := isM_lo hM
  refine fm_aload_n hc d_Me_isLeaving_0 rfl rfl ?_
  refine fm_getR (k := 0) (q := mm + 1) hc K_Me d_Me_isLeaving_1 q_305 rfl (by omega) (by omega) (ly_M0 hM) (by decide) (by decide) rfl hP.1 ?_
  refine fm_iload_n hc d_Me_isLeaving_4 rfl rfl ?_
  refine fm_iald (j := a) (len := 8) hc 0 d_Me_isLeaving_5 (by omega) (by omega) (ly_M hM (k := 1) (by omega)) rfl (by omega) (by decide) ?_
  refine fm_top (congrArg Value.int (show M.1 (mm + 1) a = nI sl from hs)) ?_
  refine fm_iconst (v := nI 2) hc d_Me_isLeaving_6 rfl ?_
  refine fm_icmp_ne (tgt := 27) hc d_Me_isLeaving_7 rfl (fun _ => ?_) (fun gQ => absurd gQ (fun e => h0 (nI_inj (by omega) (by decide) e)))
  refine fm_iconst (v := nI 0) hc d_Me_isLeaving_27 rfl ?_
  exact fm_zret (ty := .boolean) hc hr (by first | rfl | decide) d_Me_isLeaving_28 (Nat.le_refl _) (Nat.le_refl _) ⟨rfl, rfl, rfl⟩
theorem c_leaW1 {l : Launch} {b : Nat} {x : Nat → Nat} {D : va_G} {dA : Nat → ClassId} {mm a sl hp : Nat} {v : Int32} {n : Nat} {M : fm_M} (hn : 586 ≤ n) (hM : fm_isM mm) (hP : fm_MP M mm) (ha : a < 8) (hs : M.1 (mm + 1) a = nI sl) (hs4 : sl ≤ 4) (hh : M.1 (mm + (9 + 4 * a)) 4 = nI hp) (h0 : sl = 2) (h1 : nI hp = v) : Met l y_Me_isLeaving (Cond.code y_Me_isLeaving b_Me_isLeaving 3 (some .boolean) :: fm_T0) ({ frames := 0, cells := 0, slots := 0, locals := 0 }) (fm_Pc fm_lay fm_nf fm_fk fm_cl b x D dA (fm_tys dA) (fm_EX b x) false [.ref mm, .int (nI a), .int v] n M) (fm_Qc fm_lay fm_nf fm_fk fm_cl b x D dA (fun r n' M' => r = some (.int (nI 1)) ∧ n' = n ∧ M' = M)) 0 0 (fm_A b) := by
  refine fm_enter (by decide) (Nat.le_of_ble_eq_true rfl) ?_
  intro p e s m args below meth c9 hc hr hnm hex htg
  have hlo := isM_lo hM
  refine fm_aload_n hc d_Me_isLeaving_0 rfl rfl ?_
  refine fm_getR (k := 0) (q := mm + 1) hc K_Me d_Me_isLeaving_1 q_305 rfl (by omega) (by omega) (ly_M0 hM) (by decide) (by decide) rfl hP.1 ?_
  refine fm_iload_n hc d_Me_isLeaving_4 rfl rfl ?_
  refine fm_iald (j := a) (len := 8) hc 0 d_Me_isLeaving_5 (by omega) (by omega) (ly_M hM (k := 1) (by omega)) rfl (by omega) (by decide) ?_
  refine fm_top (congrArg Value.int (show M.1 (mm + 1) a = nI sl from hs)) ?_
  refine fm_iconst (v := nI 2) hc d_Me_isLeaving_6 rfl ?_
  refine fm_icmp_ne (tgt := 27) hc d_Me_isLeaving_7 rfl (fun gQ => absurd (congrArg nI h0) gQ) (fun _ => ?_)
  refine fm_aload_n hc d_Me_isLeaving_10 rfl rfl ?_
  refine fm_getR (k := 4) (q := mm + 5) hc K_Me d_Me_isLeaving_11 q_314 rfl (by omega) (by omega) (ly_M0 hM) (by decide) (by decide) rfl hP.2.2.2.2.1 ?_
  refine fm_iload_n hc d_Me_isLeaving_14 rfl rfl ?_
  refine fm_aald (q := mm + (9 + 4 * a)) (j := a) (len := 8) hc 7 d_Me_isLeaving_15 (by omega) (by omega) (ly_M hM (k := 5) (by omega)) (by decide) rfl (by omega) (by decide) (hP.2.2.2.2.2.2.2.2 a ha).1 ?_
  refine fm_getI (k := 4) hc K_Tr d_Me_isLeaving_16 q_192 rfl (by omega) (by omega) (ly_Mt hM ha) (by decide) (by decide) rfl ?_
  refine fm_top (congrArg Value.int (show M.1 (mm + (9 + 4 * a)) 4 = nI hp from hh)) ?_
  refine fm_iload_n hc d_Me_isLeaving_19 rfl rfl ?_
  refine fm_icmp_ne (tgt := 27) hc d_Me_isLeaving_20 rfl (fun gQ => absurd h1 gQ) (fun _ => ?_)
  refine fm_iconst (v := nI 1) hc d_Me_isLeaving_23 rfl ?_
  refine fm_goto (tgt := 28) hc d_Me_isLeaving_24 rfl ?_
  exact fm_zret (ty := .boolean) hc hr (by first | rfl | decide) d_Me_isLeaving_28 (Nat.le_refl _) (Nat.le_refl _) ⟨rfl, rfl, rfl⟩
theorem c_leaW2 {l : Launch} {b : Nat} {x : Nat → Nat} {D : va_G} {dA : Nat → ClassId} {mm a sl hp : Nat} {v : Int32} {n : Nat} {M : fm_M} (hn : 586 ≤ n) (hM : fm_isM mm) (hP : fm_MP M mm) (ha : a < 8) (hs : M.1 (mm + 1) a = nI sl) (hs4 : sl ≤ 4) (hh : M.1 (mm + (9 + 4 * a)) 4 = nI hp) (h0 : sl = 2) (h1 : ¬ nI hp = v) : Met l y_Me_isLeaving (Cond.code y_Me_isLeaving b_Me_isLeaving 3 (some .boolean) :: fm_T0) ({ frames := 0, cells := 0, slots := 0, locals := 0 }) (fm_Pc fm_lay fm_nf fm_fk fm_cl b x D dA (fm_tys dA) (fm_EX b x) false [.ref mm, .int (nI a), .int v] n M) (fm_Qc fm_lay fm_nf fm_fk fm_cl b x D dA (fun r n' M' => r = some (.int (nI 0)) ∧ n' = n ∧ M' = M)) 0 0 (fm_A b) := by
  refine fm_enter (by decide) (Nat.le_of_ble_eq_true rfl) ?_
  intro p e s m args below meth c9 hc hr hnm hex htg
  have hlo := isM_lo hM
  refine fm_aload_n hc d_Me_isLeaving_0 rfl rfl ?_
  refine fm_getR (k := 0) (q := mm + 1) hc K_Me d_Me_isLeaving_1 q_305 rfl (by omega) (by omega) (ly_M0 hM) (by decide) (by decide) rfl hP.1 ?_
  refine fm_iload_n hc d_Me_isLeaving_4 rfl rfl ?_
  refine fm_iald (j := a) (len := 8) hc 0 d_Me_isLeaving_5 (by omega) (by omega) (ly_M hM (k := 1) (by omega)) rfl (by omega) (by decide) ?_
  refine fm_top (congrArg Value.int (show M.1 (mm + 1) a = nI sl from hs)) ?_
  refine fm_iconst (v := nI 2) hc d_Me_isLeaving_6 rfl ?_
  refine fm_icmp_ne (tgt := 27) hc d_Me_isLeaving_7 rfl (fun gQ => absurd (congrArg nI h0) gQ) (fun _ => ?_)
  refine fm_aload_n hc d_Me_isLeaving_10 rfl rfl ?_
  refine fm_getR (k := 4) (q := mm + 5) hc K_Me d_Me_isLeaving_11 q_314 rfl (by omega) (by omega) (ly_M0 hM) (by decide) (by decide) rfl hP.2.2.2.2.1 ?_
  refine fm_iload_n hc d_Me_isLeaving_14 rfl rfl ?_
  refine fm_aald (q := mm + (9 + 4 * a)) (j := a) (len := 8) hc 7 d_Me_isLeaving_15 (by omega) (by omega) (ly_M hM (k := 5) (by omega)) (by decide) rfl (by omega) (by decide) (hP.2.2.2.2.2.2.2.2 a ha).1 ?_
  refine fm_getI (k := 4) hc K_Tr d_Me_isLeaving_16 q_192 rfl (by omega) (by omega) (ly_Mt hM ha) (by decide) (by decide) rfl ?_
  refine fm_top (congrArg Value.int (show M.1 (mm + (9 + 4 * a)) 4 = nI hp from hh)) ?_
  refine fm_iload_n hc d_Me_isLeaving_19 rfl rfl ?_
  refine fm_icmp_ne (tgt := 27) hc d_Me_isLeaving_20 rfl (fun _ => ?_) (fun gQ => absurd gQ h1)
  refine fm_iconst (v := nI 0) hc d_Me_isLeaving_27 rfl ?_
  exact fm_zret (ty := .boolean) hc hr (by first | rfl | decide) d_Me_isLeaving_28 (Nat.le_refl _) (Nat.le_refl _) ⟨rfl, rfl, rfl⟩
theorem c_recv {l : Launch} {b : Nat} {x : Nat → Nat} {D : va_G} {dA : Nat → ClassId} {j mm mq o n : Nat} {w : Nat → Nat} {m0 : mg_T} {A : ag_T} {m1 s1 : am_T} {ms : List mg_T} {M : fm_M} (hn : 586 ≤ n) (hj : j < 4) (hM : fm_isM mm) (hQ : fm_isM mq) (hs3 : M.2.2 (90 + 124 * j) 3 = some mm) (hs4 : M.2.2 (90 + 124 * j) 4 = some mq) (h0 : M.1 (90 + 124 * j) 0 = nI j) (hP : fm_MP M mm) (hPq : fm_MP M mq) (hpw : wi_P M w) (ho : o = 18 + 2 * w 20) (hg : hc_G M o m0) (hok : mg_ok m0) (ha8 : m0.2.1 < 8) (him : m0.1 = 0 → m0.2.2.2.2.2 = im_B A ∧ ag_wf m0.2.1 A) (h : hc_M M mm m1) (g : hc_M M mq s1) (hw : hc_W M w ms) (hma : am_wfs m1) (hu : ¬ M.1 (90 + 124 * j) 1 = 0) : Met l y_Si_receive (Cond.code y_Si_receive b_Si_receive 4 none :: fm_T0) ({ frames := 4, cells := 0, slots := 0, locals := 130 }) (fm_Pc fm_lay fm_nf fm_fk fm_cl b x D dA (fm_tys dA) (fm_EX b x) false [.ref (90 + 124 * j), .ref o, .ref 16] n M) (fm_Qc fm_lay fm_nf fm_fk fm_cl b x D dA (fun r n' M' => r = none ∧ n' = n ∧ hc_M M' mm (dv_M m0 A m1) ∧ hc_W M' w (dv_W j m0 m1 s1 ms) ∧ M'.2.2 = M.2.2 ∧ ∀ q, (q < mm ∨ mm + 41 ≤ q) → (q < 16 ∨ 60 ≤ q) → M'.1 q = M.1 q ∧ M'.2.1 q = M.2.1 q)) 0 0 (fm_A b) := by
  refine fm_enter (by decide) (Nat.le_of_ble_eq_true rfl) ?_
  intro p e s m args below meth c9 hc hr hnm hex htg
  have hlo := isM_lo hM
  have hlq := isM_lo hQ
  have hw20 := hpw.2.2.2.1 20 (by omega)
  have hL : ms_L n o := by rw [ho]; exact ms_of hn hw20
  have ho1 := hL.1
  have ho2 := hL.2.1
  have h7 : M.2.2 o 7 = some (o + 1) := by rw [ho]; exact hpw.2.2.2.2.2 _ hw20
  obtain ⟨S1, K1, O1, T1, G1, H1, V1, D1⟩ := m1
  obtain ⟨S2, K2, O2, T2, G2, H2, V2, D2⟩ := s1
  obtain ⟨mr, ma, mv, mf, mt, mb⟩ := m0
  obtain ⟨g0, g1, g2, g3, g4, g5⟩ := hg
  have ha8 : ma < 8 := ha8
  have hmr : mr ≤ 1 := hok.1
  have s4 : S1 ma ≤ 4 := hma.1 ma ha8
  have hsl : M.1 (mm + 1) ma = nI (S1 ma) := h.1 ma ha8
  rcases (show mr = 1 ∨ mr = 0 by omega) with rfl | rfl
  · have e1 : dv_W j (1, ma, mv, mf, mt, mb) (S1, K1, O1, T1, G1, H1, V1, D1) (S2, K2, O2, T2, G2, H2, V2, D2) ms = ms := if_pos rfl
    have e2 : dv_M (1, ma, mv, mf, mt, mb) A (S1, K1, O1, T1, G1, H1, V1, D1) = (if S1 ma = 2 ∧ nI ((G1 ma).1 4) = mv then (va_up S1 ma 0, K1, O1, T1, G1, H1, V1, D1) else (S1, K1, O1, T1, G1, H1, V1, D1)) := by simp only [dv_M, ↓reduceIte]
    rw [e1, e2]
    by_cases c1 : S1 ma = 2
    · have hA : hc_A M (mm + (9 + 4 * ma)) (G1 ma) := h.2.2.2.2.2.2 ma ha8 (by rw [c1]; decide)
      by_cases c2 : nI ((G1 ma).1 4) = mv
      · refine fm_aload_n hc d_Si_receive_0 rfl rfl ?_
        refine fm_getI (k := 1) hc K_Si d_Si_receive_1 q_333 rfl (by omega) (by omega) (ly_Si hj) (by decide) (by decide) rfl ?_
        refine fm_if_ne (tgt := 8) hc d_Si_receive_4 rfl (fun _ => ?_) (fun gQ => absurd gQ hu)
        refine fm_aload_n hc d_Si_receive_8 rfl rfl ?_
        refine fm_getI (k := 1) hc K_Ms d_Si_receive_9 q_53 rfl (by omega) (by omega) hL.2.2.2.1 (by decide) (by decide) rfl ?_
        refine fm_top (congrArg Value.int (show M.1 o 1 = nI ma from g1)) ?_
        refine fm_istore_n (lv' := [(3, .int (nI ma)), (0, .ref (90 + 124 * j)), (1, .ref o), (2, .ref 16)]) hc d_Si_receive_12 rfl (by decide) rfl ?_
        refine fm_aload_n hc d_Si_receive_13 rfl rfl ?_
        refine fm_getI (k := 0) hc K_Ms d_Si_receive_14 q_51 rfl (by omega) (by omega) hL.2.2.2.1 (by decide) (by decide) rfl ?_
        refine fm_top (congrArg Value.int (show M.1 o 0 = nI 0 from g0)) ?_
        refine fm_if_ne (tgt := 48) hc d_Si_receive_17 rfl (fun gQ => absurd (by decide) gQ) (fun _ => ?_)
        refine fm_aload_n hc d_Si_receive_20 rfl rfl ?_
        refine fm_getR (k := 3) (q := mm) hc K_Si d_Si_receive_21 q_337 rfl (by omega) (by omega) (ly_Si hj) (by decide) (by decide) rfl hs3 ?_
        refine fm_iload_n hc d_Si_receive_24 rfl rfl ?_
        refine fm_aload_n hc d_Si_receive_25 rfl rfl ?_
        refine fm_getI (k := 2) hc K_Ms d_Si_receive_26 q_55 rfl (by omega) (by omega) hL.2.2.2.1 (by decide) (by decide) rfl ?_
        refine fm_top (congrArg Value.int (show M.1 o 2 = mv from g2)) ?_
        refine fm_callV (av := [.int (nI ma), .int mv]) (rest := []) (ob := mm) (ci := 6) (r0 := ("AgentNet$Memory", F_Me, 6)) (y := y_Me_isLeaving) (bytes := b_Me_isLeaving) hc fm_T0_good (fm_EX_st b x) hex q_721 q_11 q_718 q_719 q_720 pd_Me_isLeaving (by omega) (by omega) (ly_M0 hM) (by decide) rfl rfl (c_leaW1 hn hM hP ha8 hsl s4 (hA.1 4 (by decide)) c1 c2) ⟨rfl, rfl, Nat.le_of_ble_eq_true rfl, Nat.le_of_ble_eq_true rfl⟩ ⟨Nat.le_of_ble_eq_true rfl, Nat.le_of_ble_eq_true rfl⟩ d_Si_receive_29 (Nat.le_of_ble_eq_true rfl) (fun r n2 M2 hp => ?_)
        obtain ⟨rfl, hq1, hq2⟩ := hp
        replace hq1 := hq1.symm
        replace hq2 := hq2.symm
        subst hq1 hq2
        refine fm_cnt (z' := (0, 0)) rfl (fm_st (st' := [.int (nI 1)]) rfl ?_)
        refine fm_if_eq (tgt := 138) hc d_Si_receive_32 rfl (fun gQ => absurd gQ (by decide)) (fun _ => ?_)
        refine fm_aload_n hc d_Si_receive_35 rfl rfl ?_
        refine fm_getR (k := 3) (q := mm) hc K_Si d_Si_receive_36 q_337 rfl (by omega) (by omega) (ly_Si hj) (by decide) (by decide) rfl hs3 ?_
        refine fm_getR (k := 0) (q := mm + 1) hc K_Me d_Si_receive_39 q_306 rfl (by omega) (by omega) (ly_M0 hM) (by decide) (by decide) rfl hP.1 ?_
        refine fm_iload_n hc d_Si_receive_42 rfl rfl ?_
        refine fm_iconst (v := nI 0) hc d_Si_receive_43 rfl ?_
        refine fm_iast (j := ma) (len := 8) (v := nI 0) hc 0 d_Si_receive_44 (by omega) (by omega) (ly_M hM (k := 1) (by omega)) rfl (by omega) (by decide) ?_
        refine fm_goto (tgt := 138) hc d_Si_receive_45 rfl ?_
        exact fm_vret hc hr d_Si_receive_138 (Nat.le_refl _) (Nat.le_refl _) ⟨rfl, rfl, by rw [if_pos ⟨c1, c2⟩]; exact hcM_slot0 h, hcW_of hpw (fun q a b => funext fun i => p1_other (by omega)) hw, rfl, fun q a b => ⟨funext fun i => p1_other (by omega), rfl⟩⟩
      · refine fm_aload_n hc d_Si_receive_0 rfl rfl ?_
        refine fm_getI (k := 1) hc K_Si d_Si_receive_1 q_333 rfl (by omega) (by omega) (ly_Si hj) (by decide) (by decide) rfl ?_
        refine fm_if_ne (tgt := 8) hc d_Si_receive_4 rfl (fun _ => ?_) (fun gQ => absurd gQ hu)
        refine fm_aload_n hc d_Si_receive_8 rfl rfl ?_
        refine fm_getI (k := 1) hc K_Ms d_Si_receive_9 q_53 rfl (by omega) (by omega) hL.2.2.2.1 (by decide) (by decide) rfl ?_
        refine fm_top (congrArg Value.int (show M.1 o 1 = nI ma from g1)) ?_
        refine fm_istore_n (lv' := [(3, .int (nI ma)), (0, .ref (90 + 124 * j)), (1, .ref o), (2, .ref 16)]) hc d_Si_receive_12 rfl (by decide) rfl ?_
        refine fm_aload_n hc d_Si_receive_13 rfl rfl ?_
        refine fm_getI (k := 0) hc K_Ms d_Si_receive_14 q_51 rfl (by omega) (by omega) hL.2.2.2.1 (by decide) (by decide) rfl ?_
        refine fm_top (congrArg Value.int (show M.1 o 0 = nI 0 from g0)) ?_
        refine fm_if_ne (tgt := 48) hc d_Si_receive_17 rfl (fun gQ => absurd (by decide) gQ) (fun _ => ?_)
        refine fm_aload_n hc d_Si_receive_20 rfl rfl ?_
        refine fm_getR (k := 3) (q := mm) hc K_Si d_Si_receive_21 q_337 rfl (by omega) (by omega) (ly_Si hj) (by decide) (by decide) rfl hs3 ?_
        refine fm_iload_n hc d_Si_receive_24 rfl rfl ?_
        refine fm_aload_n hc d_Si_receive_25 rfl rfl ?_
        refine fm_getI (k := 2) hc K_Ms d_Si_receive_26 q_55 rfl (by omega) (by omega) hL.2.2.2.1 (by decide) (by decide) rfl ?_
        refine fm_top (congrArg Value.int (show M.1 o 2 = mv from g2)) ?_
        refine fm_callV (av := [.int (nI ma), .int mv]) (rest := []) (ob := mm) (ci := 6) (r0 := ("AgentNet$Memory", F_Me, 6)) (y := y_Me_isLeaving) (bytes := b_Me_isLeaving) hc fm_T0_good (fm_EX_st b x) hex q_721 q_11 q_718 q_719 q_720 pd_Me_isLeaving (by omega) (by omega) (ly_M0 hM) (by decide) rfl rfl (c_leaW2 hn hM hP ha8 hsl s4 (hA.1 4 (by decide)) c1 c2) ⟨rfl, rfl, Nat.le_of_ble_eq_true rfl, Nat.le_of_ble_eq_true rfl⟩ ⟨Nat.le_of_ble_eq_true rfl, Nat.le_of_ble_eq_true rfl⟩ d_Si_receive_29 (Nat.le_of_ble_eq_true rfl) (fun r n2 M2 hp => ?_)
        obtain ⟨rfl, hq1, hq2⟩ := hp
        replace hq1 := hq1.symm
        replace hq2 := hq2.symm
        subst hq1 hq2
        refine fm_cnt (z' := (0, 0)) rfl (fm_st (st' := [.int (nI 0)]) rfl ?_)
        refine fm_if_eq (tgt := 138) hc d_Si_receive_32 rfl (fun _ => ?_) (fun gQ => absurd (by decide) gQ)
        exact fm_vret hc hr d_Si_receive_138 (Nat.le_refl _) (Nat.le_refl _) ⟨rfl, rfl, by rw [if_neg (fun q => c2 q.2)]; exact h, hw, rfl, fun _ _ _ => ⟨rfl, rfl⟩⟩
    · refine fm_aload_n hc d_Si_receive_0 rfl rfl ?_
      refine fm_getI (k := 1) hc K_Si d_Si_receive_1 q_333 rfl (by omega) (by omega) (ly_Si hj) (by decide) (by decide) rfl ?_
      refine fm_if_ne (tgt := 8) hc d_Si_receive_4 rfl (fun _ => ?_) (fun gQ => absurd gQ hu)
      refine fm_aload_n hc d_Si_receive_8 rfl rfl ?_
      refine fm_getI (k := 1) hc K_Ms d_Si_receive_9 q_53 rfl (by omega) (by omega) hL.2.2.2.1 (by decide) (by decide) rfl ?_
      refine fm_top (congrArg Value.int (show M.1 o 1 = nI ma from g1)) ?_
      refine fm_istore_n (lv' := [(3, .int (nI ma)), (0, .ref (90 + 124 * j)), (1, .ref o), (2, .ref 16)]) hc d_Si_receive_12 rfl (by decide) rfl ?_
      refine fm_aload_n hc d_Si_receive_13 rfl rfl ?_
      refine fm_getI (k := 0) hc K_Ms d_Si_receive_14 q_51 rfl (by omega) (by omega) hL.2.2.2.1 (by decide) (by decide) rfl ?_
      refine fm_top (congrArg Value.int (show M.1 o 0 = nI 0 from g0)) ?_
      refine fm_if_ne (tgt := 48) hc d_Si_receive_17 rfl (fun gQ => absurd (by decide) gQ) (fun _ => ?_)
      refine fm_aload_n hc d_Si_receive_20 rfl rfl ?_
      refine fm_getR (k := 3) (q := mm) hc K_Si d_Si_receive_21 q_337 rfl (by omega) (by omega) (ly_Si hj) (by decide) (by decide) rfl hs3 ?_
      refine fm_iload_n hc d_Si_receive_24 rfl rfl ?_
      refine fm_aload_n hc d_Si_receive_25 rfl rfl ?_
      refine fm_getI (k := 2) hc K_Ms d_Si_receive_26 q_55 rfl (by omega) (by omega) hL.2.2.2.1 (by decide) (by decide) rfl ?_
      refine fm_top (congrArg Value.int (show M.1 o 2 = mv from g2)) ?_
      refine fm_callV (av := [.int (nI ma), .int mv]) (rest := []) (ob := mm) (ci := 6) (r0 := ("AgentNet$Memory", F_Me, 6)) (y := y_Me_isLeaving) (bytes := b_Me_isLeaving) hc fm_T0_good (fm_EX_st b x) hex q_721 q_11 q_718 q_719 q_720 pd_Me_isLeaving (by omega) (by omega) (ly_M0 hM) (by decide) rfl rfl (c_leaW0 hn hM hP ha8 hsl s4 c1) ⟨rfl, rfl, Nat.le_of_ble_eq_true rfl, Nat.le_of_ble_eq_true rfl⟩ ⟨Nat.le_of_ble_eq_true rfl, Nat.le_of_ble_eq_true rfl⟩ d_Si_receive_29 (Nat.le_of_ble_eq_true rfl) (fun r n2 M2 hp => ?_)
      obtain ⟨rfl, hq1, hq2⟩ := hp
      replace hq1 := hq1.symm
      replace hq2 := hq2.symm
      subst hq1 hq2
      refine fm_cnt (z' := (0, 0)) rfl (fm_st (st' := [.int (nI 0)]) rfl ?_)
      refine fm_if_eq (tgt := 138) hc d_Si_receive_32 rfl (fun _ => ?_) (fun gQ => absurd (by decide) gQ)
      exact fm_vret hc hr d_Si_receive_138 (Nat.le_refl _) (Nat.le_refl _) ⟨rfl, rfl, by rw [if_neg (fun q => c1 q.1)]; exact h, hw, rfl, fun _ _ _ => ⟨rfl, rfl⟩⟩
  · obtain ⟨im1, wfA⟩ := him rfl
    have im1 : mb = im_B A := im1
    subst im1
    have wfA : ag_wf ma A := wfA
    have e1 : dv_W j (0, ma, mv, mf, mt, im_B A) (S1, K1, O1, T1, G1, H1, V1, D1) (S2, K2, O2, T2, G2, H2, V2, D2) ms = (if K1 ma < mv then ms else if K2 ma < mv then ms else wi_send ms (1, ma, mv, nI j, mf, [])) := if_neg (show ¬ 0 = 1 by decide)
    have e2 : dv_M (0, ma, mv, mf, mt, im_B A) A (S1, K1, O1, T1, G1, H1, V1, D1) = (if K1 ma < mv then (va_up S1 ma 1, va_up K1 ma mv, va_up O1 ma mf, T1, va_up G1 ma A, H1, V1, D1) else (S1, K1, O1, T1, G1, H1, V1, D1)) := by
      simp only [dv_M]
      exact if_neg (show ¬ (0 : Nat) = 1 by decide)
    rw [e1, e2]
    have kn : M.1 (mm + 2) ma = K1 ma := h.2.1 ma ha8
    have kq : M.1 (mq + 2) ma = K2 ma := g.2.1 ma ha8
    by_cases c1 : K1 ma < mv
    · refine fm_aload_n hc d_Si_receive_0 rfl rfl ?_
      refine fm_getI (k := 1) hc K_Si d_Si_receive_1 q_333 rfl (by omega) (by omega) (ly_Si hj) (by decide) (by decide) rfl ?_
      refine fm_if_ne (tgt := 8) hc d_Si_receive_4 rfl (fun _ => ?_) (fun gQ => absurd gQ hu)
      refine fm_aload_n hc d_Si_receive_8 rfl rfl ?_
      refine fm_getI (k := 1) hc K_Ms d_Si_receive_9 q_53 rfl (by omega) (by omega) hL.2.2.2.1 (by decide) (by decide) rfl ?_
      refine fm_top (congrArg Value.int (show M.1 o 1 = nI ma from g1)) ?_
      refine fm_istore_n (lv' := [(3, .int (nI ma)), (0, .ref (90 + 124 * j)), (1, .ref o), (2, .ref 16)]) hc d_Si_receive_12 rfl (by decide) rfl ?_
      refine fm_aload_n hc d_Si_receive_13 rfl rfl ?_
      refine fm_getI (k := 0) hc K_Ms d_Si_receive_14 q_51 rfl (by omega) (by omega) hL.2.2.2.1 (by decide) (by decide) rfl ?_
      refine fm_top (congrArg Value.int (show M.1 o 0 = nI 1 from g0)) ?_
      refine fm_if_ne (tgt := 48) hc d_Si_receive_17 rfl (fun _ => ?_) (fun gQ => absurd gQ (by decide))
      refine fm_aload_n hc d_Si_receive_48 rfl rfl ?_
      refine fm_getI (k := 2) hc K_Ms d_Si_receive_49 q_55 rfl (by omega) (by omega) hL.2.2.2.1 (by decide) (by decide) rfl ?_
      refine fm_top (congrArg Value.int (show M.1 o 2 = mv from g2)) ?_
      refine fm_aload_n hc d_Si_receive_52 rfl rfl ?_
      refine fm_getR (k := 3) (q := mm) hc K_Si d_Si_receive_53 q_337 rfl (by omega) (by omega) (ly_Si hj) (by decide) (by decide) rfl hs3 ?_
      refine fm_getR (k := 1) (q := mm + 2) hc K_Me d_Si_receive_56 q_309 rfl (by omega) (by omega) (ly_M0 hM) (by decide) (by decide) rfl hP.2.1 ?_
      refine fm_iload_n hc d_Si_receive_59 rfl rfl ?_
      refine fm_iald (j := ma) (len := 8) hc 0 d_Si_receive_60 (by omega) (by omega) (ly_M hM (k := 2) (by omega)) rfl (by omega) (by decide) ?_
      refine fm_top (congrArg Value.int (show M.1 (mm + 2) ma = K1 ma from kn)) ?_
      refine fm_icmp_le (tgt := 105) hc d_Si_receive_61 rfl (fun gQ => absurd gQ (Int32.not_le.mpr c1)) (fun _ => ?_)
      refine fm_aload_n hc d_Si_receive_64 rfl rfl ?_
      refine fm_aload_n hc d_Si_receive_65 rfl rfl ?_
      refine fm_getR (k := 3) (q := mm) hc K_Si d_Si_receive_66 q_337 rfl (by omega) (by omega) (ly_Si hj) (by decide) (by decide) rfl hs3 ?_
      refine fm_getR (k := 4) (q := mm + 5) hc K_Me d_Si_receive_69 q_316 rfl (by omega) (by omega) (ly_M0 hM) (by decide) (by decide) rfl hP.2.2.2.2.1 ?_
      refine fm_iload_n hc d_Si_receive_72 rfl rfl ?_
      refine fm_aald (q := mm + (9 + 4 * ma)) (j := ma) (len := 8) hc 7 d_Si_receive_73 (by omega) (by omega) (ly_M hM (k := 5) (by omega)) (by decide) rfl (by omega) (by decide) (hP.2.2.2.2.2.2.2.2 ma ha8).1 ?_
      refine fm_callV (av := [.ref (mm + (9 + 4 * ma))]) (rest := []) (ob := o) (ci := 9) (r0 := ("AgentNet$Message", F_Ms, 8)) (y := y_Ms_unpack) (bytes := b_Ms_unpack) hc fm_T0_good (fm_EX_st b x) hex q_864 q_3 q_861 q_862 q_863 pd_Ms_unpack (by omega) (by omega) hL.2.2.2.1 (by decide) rfl rfl (c_unpack (A := A) (a := ma) hL h7 (isM_trL hM ha8 hn) (isM_trP hP ha8) g5 ha8 wfA) ⟨rfl, rfl, Nat.le_of_ble_eq_true rfl, Nat.le_of_ble_eq_true rfl⟩ ⟨Nat.le_of_ble_eq_true rfl, Nat.le_of_ble_eq_true rfl⟩ d_Si_receive_74 (Nat.le_of_ble_eq_true rfl) (fun r n2 M2 hp => ?_)
      obtain ⟨rfl, hq1, r1, r2, r3, r4⟩ := hp
      replace hq1 := hq1.symm
      subst hq1
      revert r1 r2 r3 r4
      generalize M2 = Ma
      intro r1 r2 r3 r4
      have hPa := MP_of r2 hP
      have k2 : Ma.1 o 2 = mv := (r3 _ _ (by omega) (by omega)).trans g2
      have k3 : Ma.1 o 3 = mf := (r3 _ _ (by omega) (by omega)).trans g3
      have kk : Ma.1 (mm + 2) ma = K1 ma := (r3 _ _ (by omega) (by omega)).trans kn
      refine fm_cnt (z' := (0, 0)) rfl (fm_st (st' := []) rfl ?_)
      refine fm_aload_n hc d_Si_receive_77 rfl rfl ?_
      refine fm_getR (k := 3) (q := mm) hc K_Si d_Si_receive_78 q_337 rfl (by omega) (by omega) (ly_Si hj) (by decide) (by decide) rfl (show Ma.2.2 (90 + 124 * j) 3 = some mm by rw [r2]; exact hs3) ?_
      refine fm_iload_n hc d_Si_receive_81 rfl rfl ?_
      refine fm_aload_n hc d_Si_receive_82 rfl rfl ?_
      refine fm_getI (k := 2) hc K_Ms d_Si_receive_83 q_55 rfl (by omega) (by omega) hL.2.2.2.1 (by decide) (by decide) rfl ?_
      refine fm_top (congrArg Value.int (show Ma.1 o 2 = mv from k2)) ?_
      refine fm_callV (av := [.int (nI ma), .int mv]) (rest := []) (ob := mm) (ci := 6) (r0 := ("AgentNet$Memory", F_Me, 6)) (y := y_Me_settle) (bytes := b_Me_settle) hc fm_T0_good (fm_EX_st b x) hex q_574 q_11 q_874 q_572 q_573 pd_Me_settle (by omega) (by omega) (ly_M0 hM) (by decide) rfl rfl (c_settle (w := mv) hn hM hPa ha8) ⟨rfl, rfl, Nat.le_of_ble_eq_true rfl, Nat.le_of_ble_eq_true rfl⟩ ⟨Nat.le_of_ble_eq_true rfl, Nat.le_of_ble_eq_true rfl⟩ d_Si_receive_86 (Nat.le_of_ble_eq_true rfl) (fun r n2 M2 hp => ?_)
      obtain ⟨rfl, hq1, hq2⟩ := hp
      replace hq1 := hq1.symm
      subst hq1
      have ez : M2 = fm_put1 (fm_put1 Ma (mm + 1) ma (nI 1)) (mm + 2) ma mv := by
        rw [hq2]
        unfold m_settle
        rw [p1_other (by omega), kk, if_pos c1]
      subst ez
      clear hq2
      refine fm_cnt (z' := (0, 0)) rfl (fm_st (st' := []) rfl ?_)
      refine fm_aload_n hc d_Si_receive_89 rfl rfl ?_
      refine fm_getR (k := 3) (q := mm) hc K_Si d_Si_receive_90 q_337 rfl (by omega) (by omega) (ly_Si hj) (by decide) (by decide) rfl (show Ma.2.2 (90 + 124 * j) 3 = some mm by rw [r2]; exact hs3) ?_
      refine fm_getR (k := 2) (q := mm + 3) hc K_Me d_Si_receive_93 q_311 rfl (by omega) (by omega) (ly_M0 hM) (by decide) (by decide) rfl hPa.2.2.1 ?_
      refine fm_iload_n hc d_Si_receive_96 rfl rfl ?_
      refine fm_aload_n hc d_Si_receive_97 rfl rfl ?_
      refine fm_getI (k := 3) hc K_Ms d_Si_receive_98 q_57 rfl (by omega) (by omega) hL.2.2.2.1 (by decide) (by decide) rfl ?_
      refine fm_top (congrArg Value.int (show (fm_put1 (fm_put1 Ma (mm + 1) ma (nI 1)) (mm + 2) ma mv).1 o 3 = mf from ((p1_other (by omega)).trans ((p1_other (by omega)).trans k3)))) ?_
      refine fm_iast (j := ma) (len := 8) (v := mf) hc 0 d_Si_receive_101 (by omega) (by omega) (ly_M hM (k := 3) (by omega)) rfl (by omega) (by decide) ?_
      refine fm_goto (tgt := 138) hc d_Si_receive_102 rfl ?_
      exact fm_vret hc hr d_Si_receive_138 (Nat.le_refl _) (Nat.le_refl _) ⟨rfl, rfl, by rw [if_pos c1]; exact hcM_come h r1 (fun q j a b c => r3 q j c (by omega)) (fun q a b c d e => r4 q c d e) rfl, by rw [if_pos c1]; exact hcW_c (o := o) hpw ⟨_, ho⟩ (fun q i a b c => (p1_other (by omega)).trans ((p1_other (by omega)).trans ((p1_other (by omega)).trans (r3 q i (by omega) c)))) hw, r2, fun q a b => ⟨funext fun i => (p1_other (by omega)).trans ((p1_other (by omega)).trans ((p1_other (by omega)).trans (r3 q i (by omega) (by omega)))), r4 q (by omega) (by omega) (by omega)⟩⟩
    · by_cases c2 : K2 ma < mv
      · refine fm_aload_n hc d_Si_receive_0 rfl rfl ?_
        refine fm_getI (k := 1) hc K_Si d_Si_receive_1 q_333 rfl (by omega) (by omega) (ly_Si hj) (by decide) (by decide) rfl ?_
        refine fm_if_ne (tgt := 8) hc d_Si_receive_4 rfl (fun _ => ?_) (fun gQ => absurd gQ hu)
        refine fm_aload_n hc d_Si_receive_8 rfl rfl ?_
        refine fm_getI (k := 1) hc K_Ms d_Si_receive_9 q_53 rfl (by omega) (by omega) hL.2.2.2.1 (by decide) (by decide) rfl ?_
        refine fm_top (congrArg Value.int (show M.1 o 1 = nI ma from g1)) ?_
        refine fm_istore_n (lv' := [(3, .int (nI ma)), (0, .ref (90 + 124 * j)), (1, .ref o), (2, .ref 16)]) hc d_Si_receive_12 rfl (by decide) rfl ?_
        refine fm_aload_n hc d_Si_receive_13 rfl rfl ?_
        refine fm_getI (k := 0) hc K_Ms d_Si_receive_14 q_51 rfl (by omega) (by omega) hL.2.2.2.1 (by decide) (by decide) rfl ?_
        refine fm_top (congrArg Value.int (show M.1 o 0 = nI 1 from g0)) ?_
        refine fm_if_ne (tgt := 48) hc d_Si_receive_17 rfl (fun _ => ?_) (fun gQ => absurd gQ (by decide))
        refine fm_aload_n hc d_Si_receive_48 rfl rfl ?_
        refine fm_getI (k := 2) hc K_Ms d_Si_receive_49 q_55 rfl (by omega) (by omega) hL.2.2.2.1 (by decide) (by decide) rfl ?_
        refine fm_top (congrArg Value.int (show M.1 o 2 = mv from g2)) ?_
        refine fm_aload_n hc d_Si_receive_52 rfl rfl ?_
        refine fm_getR (k := 3) (q := mm) hc K_Si d_Si_receive_53 q_337 rfl (by omega) (by omega) (ly_Si hj) (by decide) (by decide) rfl hs3 ?_
        refine fm_getR (k := 1) (q := mm + 2) hc K_Me d_Si_receive_56 q_309 rfl (by omega) (by omega) (ly_M0 hM) (by decide) (by decide) rfl hP.2.1 ?_
        refine fm_iload_n hc d_Si_receive_59 rfl rfl ?_
        refine fm_iald (j := ma) (len := 8) hc 0 d_Si_receive_60 (by omega) (by omega) (ly_M hM (k := 2) (by omega)) rfl (by omega) (by decide) ?_
        refine fm_top (congrArg Value.int (show M.1 (mm + 2) ma = K1 ma from kn)) ?_
        refine fm_icmp_le (tgt := 105) hc d_Si_receive_61 rfl (fun _ => ?_) (fun gQ => absurd (Int32.not_lt.mp c1) gQ)
        refine fm_aload_n hc d_Si_receive_105 rfl rfl ?_
        refine fm_getR (k := 4) (q := mq) hc K_Si d_Si_receive_106 q_339 rfl (by omega) (by omega) (ly_Si hj) (by decide) (by decide) rfl hs4 ?_
        refine fm_getR (k := 1) (q := mq + 2) hc K_Me d_Si_receive_109 q_309 rfl (by omega) (by omega) (ly_M0 hQ) (by decide) (by decide) rfl hPq.2.1 ?_
        refine fm_iload_n hc d_Si_receive_112 rfl rfl ?_
        refine fm_iald (j := ma) (len := 8) hc 0 d_Si_receive_113 (by omega) (by omega) (ly_M hQ (k := 2) (by omega)) rfl (by omega) (by decide) ?_
        refine fm_top (congrArg Value.int (show M.1 (mq + 2) ma = K2 ma from kq)) ?_
        refine fm_aload_n hc d_Si_receive_114 rfl rfl ?_
        refine fm_getI (k := 2) hc K_Ms d_Si_receive_115 q_55 rfl (by omega) (by omega) hL.2.2.2.1 (by decide) (by decide) rfl ?_
        refine fm_top (congrArg Value.int (show M.1 o 2 = mv from g2)) ?_
        refine fm_icmp_lt (tgt := 138) hc d_Si_receive_118 rfl (fun _ => ?_) (fun gQ => absurd c2 gQ)
        exact fm_vret hc hr d_Si_receive_138 (Nat.le_refl _) (Nat.le_refl _) ⟨rfl, rfl, by rw [if_neg c1]; exact h, by rw [if_neg c1, if_pos c2]; exact hw, rfl, fun _ _ _ => ⟨rfl, rfl⟩⟩
      · refine fm_aload_n hc d_Si_receive_0 rfl rfl ?_
        refine fm_getI (k := 1) hc K_Si d_Si_receive_1 q_333 rfl (by omega) (by omega) (ly_Si hj) (by decide) (by decide) rfl ?_
        refine fm_if_ne (tgt := 8) hc d_Si_receive_4 rfl (fun _ => ?_) (fun gQ => absurd gQ hu)
        refine fm_aload_n hc d_Si_receive_8 rfl rfl ?_
        refine fm_getI (k := 1) hc K_Ms d_Si_receive_9 q_53 rfl (by omega) (by omega) hL.2.2.2.1 (by decide) (by decide) rfl ?_
        refine fm_top (congrArg Value.int (show M.1 o 1 = nI ma from g1)) ?_
        refine fm_istore_n (lv' := [(3, .int (nI ma)), (0, .ref (90 + 124 * j)), (1, .ref o), (2, .ref 16)]) hc d_Si_receive_12 rfl (by decide) rfl ?_
        refine fm_aload_n hc d_Si_receive_13 rfl rfl ?_
        refine fm_getI (k := 0) hc K_Ms d_Si_receive_14 q_51 rfl (by omega) (by omega) hL.2.2.2.1 (by decide) (by decide) rfl ?_
        refine fm_top (congrArg Value.int (show M.1 o 0 = nI 1 from g0)) ?_
        refine fm_if_ne (tgt := 48) hc d_Si_receive_17 rfl (fun _ => ?_) (fun gQ => absurd gQ (by decide))
        refine fm_aload_n hc d_Si_receive_48 rfl rfl ?_
        refine fm_getI (k := 2) hc K_Ms d_Si_receive_49 q_55 rfl (by omega) (by omega) hL.2.2.2.1 (by decide) (by decide) rfl ?_
        refine fm_top (congrArg Value.int (show M.1 o 2 = mv from g2)) ?_
        refine fm_aload_n hc d_Si_receive_52 rfl rfl ?_
        refine fm_getR (k := 3) (q := mm) hc K_Si d_Si_receive_53 q_337 rfl (by omega) (by omega) (ly_Si hj) (by decide) (by decide) rfl hs3 ?_
        refine fm_getR (k := 1) (q := mm + 2) hc K_Me d_Si_receive_56 q_309 rfl (by omega) (by omega) (ly_M0 hM) (by decide) (by decide) rfl hP.2.1 ?_
        refine fm_iload_n hc d_Si_receive_59 rfl rfl ?_
        refine fm_iald (j := ma) (len := 8) hc 0 d_Si_receive_60 (by omega) (by omega) (ly_M hM (k := 2) (by omega)) rfl (by omega) (by decide) ?_
        refine fm_top (congrArg Value.int (show M.1 (mm + 2) ma = K1 ma from kn)) ?_
        refine fm_icmp_le (tgt := 105) hc d_Si_receive_61 rfl (fun _ => ?_) (fun gQ => absurd (Int32.not_lt.mp c1) gQ)
        refine fm_aload_n hc d_Si_receive_105 rfl rfl ?_
        refine fm_getR (k := 4) (q := mq) hc K_Si d_Si_receive_106 q_339 rfl (by omega) (by omega) (ly_Si hj) (by decide) (by decide) rfl hs4 ?_
        refine fm_getR (k := 1) (q := mq + 2) hc K_Me d_Si_receive_109 q_309 rfl (by omega) (by omega) (ly_M0 hQ) (by decide) (by decide) rfl hPq.2.1 ?_
        refine fm_iload_n hc d_Si_receive_112 rfl rfl ?_
        refine fm_iald (j := ma) (len := 8) hc 0 d_Si_receive_113 (by omega) (by omega) (ly_M hQ (k := 2) (by omega)) rfl (by omega) (by decide) ?_
        refine fm_top (congrArg Value.int (show M.1 (mq + 2) ma = K2 ma from kq)) ?_
        refine fm_aload_n hc d_Si_receive_114 rfl rfl ?_
        refine fm_getI (k := 2) hc K_Ms d_Si_receive_115 q_55 rfl (by omega) (by omega) hL.2.2.2.1 (by decide) (by decide) rfl ?_
        refine fm_top (congrArg Value.int (show M.1 o 2 = mv from g2)) ?_
        refine fm_icmp_lt (tgt := 138) hc d_Si_receive_118 rfl (fun gQ => absurd gQ c2) (fun _ => ?_)
        refine fm_aload_n hc d_Si_receive_121 rfl rfl ?_
        refine fm_iload_n hc d_Si_receive_122 rfl rfl ?_
        refine fm_aload_n hc d_Si_receive_123 rfl rfl ?_
        refine fm_getI (k := 2) hc K_Ms d_Si_receive_124 q_55 rfl (by omega) (by omega) hL.2.2.2.1 (by decide) (by decide) rfl ?_
        refine fm_top (congrArg Value.int (show M.1 o 2 = mv from g2)) ?_
        refine fm_aload_n hc d_Si_receive_127 rfl rfl ?_
        refine fm_getI (k := 0) hc K_Si d_Si_receive_128 q_332 rfl (by omega) (by omega) (ly_Si hj) (by decide) (by decide) rfl ?_
        refine fm_top (congrArg Value.int (show M.1 (90 + 124 * j) 0 = nI j from h0)) ?_
        refine fm_aload_n hc d_Si_receive_131 rfl rfl ?_
        refine fm_getI (k := 3) hc K_Ms d_Si_receive_132 q_57 rfl (by omega) (by omega) hL.2.2.2.1 (by decide) (by decide) rfl ?_
        refine fm_top (congrArg Value.int (show M.1 o 3 = mf from g3)) ?_
        refine fm_callV (av := [.int (nI ma), .int mv, .int (nI j), .int mf]) (rest := []) (ob := 16) (ci := 4) (r0 := ("AgentNet$Wire", F_Wi, 3)) (y := y_Wi_sendReceipt) (bytes := b_Wi_sendReceipt) hc fm_T0_good (fm_EX_st b x) hex q_796 q_2 q_793 q_794 q_795 pd_Wi_sendReceipt (by decide) (by omega) (by decide) (by decide) rfl rfl (c_sendRec (a := ma) (v := mv) (f := nI j) (t2 := mf) hn hpw hw) ⟨rfl, rfl, Nat.le_of_ble_eq_true rfl, Nat.le_of_ble_eq_true rfl⟩ ⟨Nat.le_of_ble_eq_true rfl, Nat.le_of_ble_eq_true rfl⟩ d_Si_receive_135 (Nat.le_of_ble_eq_true rfl) (fun r n2 M2 hp => ?_)
        obtain ⟨rfl, hq1, r1, r2⟩ := hp
        replace hq1 := hq1.symm
        subst hq1
        revert r1 r2
        generalize M2 = Ma
        intro r1 r2
        refine fm_cnt (z' := (0, 0)) rfl (fm_st (st' := []) rfl ?_)
        exact fm_vret hc hr d_Si_receive_138 (Nat.le_refl _) (Nat.le_refl _) ⟨rfl, rfl, by rw [if_neg c1]; exact hcM_fw hlo.1 r2 h, by rw [if_neg c1, if_neg c2]; exact r1, by rw [r2.1], fun q a b => ⟨r2.2 q b, by rw [r2.1]⟩⟩
theorem c_recv_down {l : Launch} {b : Nat} {x : Nat → Nat} {D : va_G} {dA : Nat → ClassId} {j o : Nat} {n : Nat} {M : fm_M} (hn : 586 ≤ n) (hj : j < 4) (hu : M.1 (90 + 124 * j) 1 = nI 0) : Met l y_Si_receive (Cond.code y_Si_receive b_Si_receive 4 none :: fm_T0) ({ frames := 4, cells := 0, slots := 0, locals := 130 }) (fm_Pc fm_lay fm_nf fm_fk fm_cl b x D dA (fm_tys dA) (fm_EX b x) false [.ref (90 + 124 * j), .ref o, .ref 16] n M) (fm_Qc fm_lay fm_nf fm_fk fm_cl b x D dA (fun r n' M' => r = none ∧ n' = n ∧ M' = M)) 0 0 (fm_A b) := by
  refine fm_enter (by decide) (Nat.le_of_ble_eq_true rfl) ?_
  intro p e s m args below meth c9 hc hr hnm hex htg
  refine fm_aload_n hc d_Si_receive_0 rfl rfl ?_
  refine fm_getI (k := 1) hc K_Si d_Si_receive_1 q_333 rfl (by omega) (by omega) (ly_Si hj) (by decide) (by decide) rfl ?_
  refine fm_top (congrArg Value.int (show M.1 (90 + 124 * j) 1 = nI 0 from hu)) ?_
  refine fm_if_ne (tgt := 8) hc d_Si_receive_4 rfl (fun gQ => absurd (by decide) gQ) (fun _ => ?_)
  exact fm_vret hc hr d_Si_receive_7 (Nat.le_refl _) (Nat.le_refl _) ⟨rfl, rfl, rfl⟩
theorem x_net_double {l : Launch} {b : Nat} {x : Nat → Nat} {D : va_G} {dA : Nat → ClassId} (htr : l.stackTraces = false) {k n : Nat} {w : Nat → Nat} {m0 : mg_T} {ms : List mg_T} {M : fm_M} (hn : 586 ≤ n) (hA : fm_AP M) (hpw : wi_P M w) (hw : hc_W M w ms) (hk : ms[k]? = some m0) (hl : ms.length < 20) (hok : mg_ok m0) : MetFree l y_An_net (headSpec (Cond.code y_An_net b_An_net 4 (some .int) :: fm_T0) ({ frames := 10, cells := 1, slots := 6, locals := 400 })) (fm_Pc fm_lay fm_nf fm_fk fm_cl b x D dA (fm_tys dA) (fm_EX b x) false [.ref 8, .int (nI k), .int (nI 2)] n M) (fun _ _ _ _ _ => True) (fx_Q fm_lay fm_nf fm_fk fm_cl b x D dA (fun r n' M' => r = some (.int (nI (ms.length + 1))) ∧ n' = n ∧ hc_W M' w (ms ++ [m0]) ∧ fw_M M M') (fun _ _ _ => False) 1 6) := by
  refine fx_enter (by decide) (Nat.le_of_ble_eq_true rfl) ?_
  intro p e s m args below meth c9 hc hr hnm hex htg htab
  have hkl : k < ms.length := (List.getElem?_eq_some_iff.mp hk).1
  have h20 := hw.2.1
  have hhas : ¬ nI k < 0 ∧ ¬ M.1 16 1 ≤ nI k := by
    rw [hw.1]
    exact ⟨fun q => by have := (nI_ltI (a := k) (b := 0) (by omega) (by decide)).mp q; omega, hnle (a := ms.length) (c := k) hkl (by omega)⟩
  refine fm_iload_n hc d_An_net_0 rfl rfl ?_
  refine fm_if_eq (tgt := 22) hc d_An_net_1 rfl (fun gQ => absurd gQ (by decide)) (fun _ => ?_)
  refine fm_iload_n hc d_An_net_4 rfl rfl ?_
  refine fm_iconst (v := nI 1) hc d_An_net_5 rfl ?_
  refine fm_icmp_eq (tgt := 22) hc d_An_net_6 rfl (fun gQ => absurd gQ (by decide)) (fun _ => ?_)
  refine fm_iload_n hc d_An_net_9 rfl rfl ?_
  refine fm_iconst (v := nI 2) hc d_An_net_10 rfl ?_
  refine fm_icmp_eq (tgt := 22) hc d_An_net_11 rfl (fun _ => ?_) (fun gQ => absurd (by decide) gQ)
  refine fm_aload_n hc d_An_net_22 rfl rfl ?_
  refine fm_getR (k := 3) (q := 16) hc K_An d_An_net_23 q_358 rfl (by decide) (by omega) (by decide) (by decide) (by decide) rfl (ap_3 hA) ?_
  refine fm_iload_n hc d_An_net_26 rfl rfl ?_
  refine fm_callV (av := [.int (nI k)]) (rest := []) (ob := 16) (ci := 4) (r0 := ("AgentNet$Wire", F_Wi, 3)) (y := y_Wi_has) (bytes := b_Wi_has) hc fm_T0_good (fm_EX_st b x) hex q_405 q_2 q_402 q_403 q_404 pd_Wi_has (by decide) (by omega) (by decide) (by decide) rfl rfl (c_Wi_has_ok hn hhas) ⟨rfl, rfl, Nat.le_of_ble_eq_true rfl, Nat.le_of_ble_eq_true rfl⟩ ⟨Nat.le_of_ble_eq_true rfl, Nat.le_of_ble_eq_true rfl⟩ d_An_net_27 (Nat.le_of_ble_eq_true rfl) (fun r n2 M2 hp => ?_)
  obtain ⟨rfl, hq1, hq2⟩ := hp
  replace hq1 := hq1.symm
  replace hq2 := hq2.symm
  subst hq1 hq2
  refine fm_cnt (z' := (0, 0)) rfl (fm_st (st' := [.int (nI 1)]) rfl ?_)
  refine fm_if_ne (tgt := 41) hc d_An_net_30 rfl (fun _ => ?_) (fun gQ => absurd gQ (by decide))
  refine fm_iload_n hc d_An_net_41 rfl rfl ?_
  refine fm_iconst (v := nI 2) hc d_An_net_42 rfl ?_
  refine fm_icmp_ne (tgt := 64) hc d_An_net_43 rfl (fun gQ => absurd (by decide) gQ) (fun _ => ?_)
  refine fm_aload_n hc d_An_net_46 rfl rfl ?_
  refine fm_getR (k := 3) (q := 16) hc K_An d_An_net_47 q_358 rfl (by decide) (by omega) (by decide) (by decide) (by decide) rfl (ap_3 hA) ?_
  refine fm_callV (av := []) (rest := []) (ob := 16) (ci := 4) (r0 := ("AgentNet$Wire", F_Wi, 3)) (y := y_Wi_isFull) (bytes := b_Wi_isFull) hc fm_T0_good (fm_EX_st b x) hex q_729 q_2 q_842 q_727 q_728 pd_Wi_isFull (by decide) (by omega) (by decide) (by decide) rfl rfl (c_isFull0 hn hw.1 hl) ⟨rfl, rfl, Nat.le_of_ble_eq_true rfl, Nat.le_of_ble_eq_true rfl⟩ ⟨Nat.le_of_ble_eq_true rfl, Nat.le_of_ble_eq_true rfl⟩ d_An_net_50 (Nat.le_of_ble_eq_true rfl) (fun r n2 M2 hp => ?_)
  obtain ⟨rfl, hq1, hq2⟩ := hp
  replace hq1 := hq1.symm
  replace hq2 := hq2.symm
  subst hq1 hq2
  refine fm_cnt (z' := (0, 0)) rfl (fm_st (st' := [.int (nI 0)]) rfl ?_)
  refine fm_if_eq (tgt := 64) hc d_An_net_53 rfl (fun _ => ?_) (fun gQ => absurd (by decide) gQ)
  refine fm_iload_n hc d_An_net_64 rfl rfl ?_
  refine fm_iconst (v := nI 2) hc d_An_net_65 rfl ?_
  refine fm_icmp_ne (tgt := 80) hc d_An_net_66 rfl (fun gQ => absurd (by decide) gQ) (fun _ => ?_)
  refine fm_aload_n hc d_An_net_69 rfl rfl ?_
  refine fm_getR (k := 3) (q := 16) hc K_An d_An_net_70 q_358 rfl (by decide) (by omega) (by decide) (by decide) (by decide) rfl (ap_3 hA) ?_
  refine fm_iload_n hc d_An_net_73 rfl rfl ?_
  refine fm_callV (av := [.int (nI k)]) (rest := []) (ob := 16) (ci := 4) (r0 := ("AgentNet$Wire", F_Wi, 3)) (y := y_Wi_repeat) (bytes := b_Wi_repeat) hc fm_T0_good (fm_EX_st b x) hex q_846 q_2 q_843 q_844 q_845 pd_Wi_repeat (by decide) (by omega) (by decide) (by decide) rfl rfl (c_repeat hn hpw hw hl hk hok) ⟨rfl, rfl, Nat.le_of_ble_eq_true rfl, Nat.le_of_ble_eq_true rfl⟩ ⟨Nat.le_of_ble_eq_true rfl, Nat.le_of_ble_eq_true rfl⟩ d_An_net_74 (Nat.le_of_ble_eq_true rfl) (fun r n2 M2 hp => ?_)
  obtain ⟨rfl, hq1, r1, r2⟩ := hp
  replace hq1 := hq1.symm
  subst hq1
  revert r1 r2
  generalize M2 = Ma
  intro r1 r2
  refine fm_cnt (z' := (0, 0)) rfl (fm_st (st' := []) rfl ?_)
  refine fm_goto (tgt := 110) hc d_An_net_77 rfl ?_
  refine fm_aload_n hc d_An_net_110 rfl rfl ?_
  refine fm_getR (k := 3) (q := 16) hc K_An d_An_net_111 q_358 rfl (by decide) (by omega) (by decide) (by decide) (by decide) rfl (ap_3 (AP_of (by rw [r2.1] : Ma.2.2 = M.2.2) hA)) ?_
  refine fm_getI (k := 1) hc K_Wi d_An_net_114 q_85 rfl (by decide) (by omega) (by decide) (by decide) (by decide) rfl ?_
  refine fm_top (congrArg Value.int (show Ma.1 16 1 = nI (ms.length + 1) from (by have := r1.1; rw [List.length_append] at this; exact this))) ?_
  exact fx_ret (fm_iret hc hr d_An_net_117 (Nat.le_of_ble_eq_true rfl) (Nat.le_of_ble_eq_true rfl) ⟨rfl, rfl, r1, r2⟩)
theorem AP_of2 {M M' : fm_M} (e : ∀ z, z ≠ 16 → z ≠ 17 → M'.2.2 z = M.2.2 z) (h : fm_AP M) : fm_AP M' := fun q hq => by
  have hne : q.1 ≠ 16 ∧ q.1 ≠ 17 := by
    have : ∀ q ∈ fm_ap, q.1 ≠ 16 ∧ q.1 ≠ 17 := by decide
    exact this q hq
  rw [e _ hne.1 hne.2]
  exact h q hq
theorem x_net_lose {l : Launch} {b : Nat} {x : Nat → Nat} {D : va_G} {dA : Nat → ClassId} (htr : l.stackTraces = false) {k n : Nat} {w : Nat → Nat} {m0 : mg_T} {ms : List mg_T} {M : fm_M} (hn : 586 ≤ n) (hA : fm_AP M) (hpw : wi_P M w) (hw : hc_W M w ms) (hk : ms[k]? = some m0) : MetFree l y_An_net (headSpec (Cond.code y_An_net b_An_net 4 (some .int) :: fm_T0) ({ frames := 10, cells := 1, slots := 6, locals := 400 })) (fm_Pc fm_lay fm_nf fm_fk fm_cl b x D dA (fm_tys dA) (fm_EX b x) false [.ref 8, .int (nI k), .int (nI 1)] n M) (fun _ _ _ _ _ => True) (fx_Q fm_lay fm_nf fm_fk fm_cl b x D dA (fun r n' M' => r = some (.int (nI (ms.length - 1))) ∧ n' = n ∧ wi_P M' (fun c => w (rm_s k ms.length c)) ∧ hc_W M' (fun c => w (rm_s k ms.length c)) (ms.eraseIdx k) ∧ M'.2.1 = M.2.1 ∧ (∀ z, z ≠ 16 → M'.1 z = M.1 z) ∧ (∀ z, z ≠ 16 → z ≠ 17 → M'.2.2 z = M.2.2 z)) (fun _ _ _ => False) 1 6) := by
  refine fx_enter (by decide) (Nat.le_of_ble_eq_true rfl) ?_
  intro p e s m args below meth c9 hc hr hnm hex htg htab
  have hkl : k < ms.length := (List.getElem?_eq_some_iff.mp hk).1
  have h20 := hw.2.1
  have hhas : ¬ nI k < 0 ∧ ¬ M.1 16 1 ≤ nI k := by
    rw [hw.1]
    exact ⟨fun q => by have := (nI_ltI (a := k) (b := 0) (by omega) (by decide)).mp q; omega, hnle (a := ms.length) (c := k) hkl (by omega)⟩
  have hlen : (ms.eraseIdx k).length = ms.length - 1 := by rw [List.length_eraseIdx, if_pos hkl]
  have hw20 := hpw.2.2.2.1 k (by omega)
  have hL : ms_L n (18 + 2 * w k) := ms_of hn hw20
  refine fm_iload_n hc d_An_net_0 rfl rfl ?_
  refine fm_if_eq (tgt := 22) hc d_An_net_1 rfl (fun gQ => absurd gQ (by decide)) (fun _ => ?_)
  refine fm_iload_n hc d_An_net_4 rfl rfl ?_
  refine fm_iconst (v := nI 1) hc d_An_net_5 rfl ?_
  refine fm_icmp_eq (tgt := 22) hc d_An_net_6 rfl (fun _ => ?_) (fun gQ => absurd (by decide) gQ)
  refine fm_aload_n hc d_An_net_22 rfl rfl ?_
  refine fm_getR (k := 3) (q := 16) hc K_An d_An_net_23 q_358 rfl (by decide) (by omega) (by decide) (by decide) (by decide) rfl (ap_3 hA) ?_
  refine fm_iload_n hc d_An_net_26 rfl rfl ?_
  refine fm_callV (av := [.int (nI k)]) (rest := []) (ob := 16) (ci := 4) (r0 := ("AgentNet$Wire", F_Wi, 3)) (y := y_Wi_has) (bytes := b_Wi_has) hc fm_T0_good (fm_EX_st b x) hex q_405 q_2 q_402 q_403 q_404 pd_Wi_has (by decide) (by omega) (by decide) (by decide) rfl rfl (c_Wi_has_ok hn hhas) ⟨rfl, rfl, Nat.le_of_ble_eq_true rfl, Nat.le_of_ble_eq_true rfl⟩ ⟨Nat.le_of_ble_eq_true rfl, Nat.le_of_ble_eq_true rfl⟩ d_An_net_27 (Nat.le_of_ble_eq_true rfl) (fun r n2 M2 hp => ?_)
  obtain ⟨rfl, hq1, hq2⟩ := hp
  replace hq1 := hq1.symm
  replace hq2 := hq2.symm
  subst hq1 hq2
  refine fm_cnt (z' := (0, 0)) rfl (fm_st (st' := [.int (nI 1)]) rfl ?_)
  refine fm_if_ne (tgt := 41) hc d_An_net_30 rfl (fun _ => ?_) (fun gQ => absurd gQ (by decide))
  refine fm_iload_n hc d_An_net_41 rfl rfl ?_
  refine fm_iconst (v := nI 2) hc d_An_net_42 rfl ?_
  refine fm_icmp_ne (tgt := 64) hc d_An_net_43 rfl (fun _ => ?_) (fun gQ => absurd gQ (by decide))
  refine fm_iload_n hc d_An_net_64 rfl rfl ?_
  refine fm_iconst (v := nI 2) hc d_An_net_65 rfl ?_
  refine fm_icmp_ne (tgt := 80) hc d_An_net_66 rfl (fun _ => ?_) (fun gQ => absurd gQ (by decide))
  refine fm_aload_n hc d_An_net_80 rfl rfl ?_
  refine fm_getR (k := 3) (q := 16) hc K_An d_An_net_81 q_358 rfl (by decide) (by omega) (by decide) (by decide) (by decide) rfl (ap_3 hA) ?_
  refine fm_iload_n hc d_An_net_84 rfl rfl ?_
  refine fm_callV (av := [.int (nI k)]) (rest := []) (ob := 16) (ci := 4) (r0 := ("AgentNet$Wire", F_Wi, 3)) (y := y_Wi_remove) (bytes := b_Wi_remove) hc fm_T0_good (fm_EX_st b x) hex q_856 q_2 q_853 q_854 q_855 pd_Wi_remove (by decide) (by omega) (by decide) (by decide) rfl rfl (c_remove hn hpw hw hk) ⟨rfl, rfl, Nat.le_of_ble_eq_true rfl, Nat.le_of_ble_eq_true rfl⟩ ⟨Nat.le_of_ble_eq_true rfl, Nat.le_of_ble_eq_true rfl⟩ d_An_net_85 (Nat.le_of_ble_eq_true rfl) (fun r n2 M2 hp => ?_)
  obtain ⟨rfl, hq1, r1, r2, r3, r4, r5, r6⟩ := hp
  replace hq1 := hq1.symm
  subst hq1
  revert r1 r2 r3 r4 r5 r6
  generalize M2 = Ma
  intro r1 r2 r3 r4 r5 r6
  have hAa := AP_of2 r6 hA
  refine fm_cnt (z' := (0, 0)) rfl (fm_st (st' := [.ref (18 + 2 * w k)]) rfl ?_)
  refine fm_astore_n (lv' := [(3, .ref (18 + 2 * w k)), (0, .ref 8), (1, .int (nI k)), (2, .int (nI 1))]) hc d_An_net_88 rfl (by decide) rfl ?_
  refine fm_iload_n hc d_An_net_89 rfl rfl ?_
  refine fm_if_ne (tgt := 110) hc d_An_net_90 rfl (fun _ => ?_) (fun gQ => absurd gQ (by decide))
  refine fm_aload_n hc d_An_net_110 rfl rfl ?_
  refine fm_getR (k := 3) (q := 16) hc K_An d_An_net_111 q_358 rfl (by decide) (by omega) (by decide) (by decide) (by decide) rfl (ap_3 hAa) ?_
  refine fm_getI (k := 1) hc K_Wi d_An_net_114 q_85 rfl (by decide) (by omega) (by decide) (by decide) (by decide) rfl ?_
  refine fm_top (congrArg Value.int (show Ma.1 16 1 = nI (ms.length - 1) from (by have := r2.1; rw [hlen] at this; exact this))) ?_
  exact fx_ret (fm_iret hc hr d_An_net_117 (Nat.le_of_ble_eq_true rfl) (Nat.le_of_ble_eq_true rfl) ⟨rfl, rfl, r1, r2, r4, r5, r6⟩)
theorem x_net_down {l : Launch} {b : Nat} {x : Nat → Nat} {D : va_G} {dA : Nat → ClassId} (htr : l.stackTraces = false) {j k n : Nat} {w : Nat → Nat} {m0 : mg_T} {ms : List mg_T} {M : fm_M} (hn : 586 ≤ n) (hA : fm_AP M) (hpw : wi_P M w) (hw : hc_W M w ms) (hk : ms[k]? = some m0) (hj : j < 4) (hto : m0.2.2.2.2.1 = nI j) (hu : M.1 (90 + 124 * j) 1 = nI 0) : MetFree l y_An_net (headSpec (Cond.code y_An_net b_An_net 4 (some .int) :: fm_T0) ({ frames := 10, cells := 1, slots := 6, locals := 400 })) (fm_Pc fm_lay fm_nf fm_fk fm_cl b x D dA (fm_tys dA) (fm_EX b x) false [.ref 8, .int (nI k), .int (nI 0)] n M) (fun _ _ _ _ _ => True) (fx_Q fm_lay fm_nf fm_fk fm_cl b x D dA (fun r n' M' => r = some (.int (nI (ms.length - 1))) ∧ n' = n ∧ wi_P M' (fun c => w (rm_s k ms.length c)) ∧ hc_W M' (fun c => w (rm_s k ms.length c)) (ms.eraseIdx k) ∧ M'.2.1 = M.2.1 ∧ (∀ z, z ≠ 16 → M'.1 z = M.1 z) ∧ (∀ z, z ≠ 16 → z ≠ 17 → M'.2.2 z = M.2.2 z)) (fun _ _ _ => False) 1 6) := by
  refine fx_enter (by decide) (Nat.le_of_ble_eq_true rfl) ?_
  intro p e s m args below meth c9 hc hr hnm hex htg htab
  have hkl : k < ms.length := (List.getElem?_eq_some_iff.mp hk).1
  have h20 := hw.2.1
  have hhas : ¬ nI k < 0 ∧ ¬ M.1 16 1 ≤ nI k := by
    rw [hw.1]
    exact ⟨fun q => by have := (nI_ltI (a := k) (b := 0) (by omega) (by decide)).mp q; omega, hnle (a := ms.length) (c := k) hkl (by omega)⟩
  have hlen : (ms.eraseIdx k).length = ms.length - 1 := by rw [List.length_eraseIdx, if_pos hkl]
  have hw20 := hpw.2.2.2.1 k (by omega)
  have hL : ms_L n (18 + 2 * w k) := ms_of hn hw20
  refine fm_iload_n hc d_An_net_0 rfl rfl ?_
  refine fm_if_eq (tgt := 22) hc d_An_net_1 rfl (fun _ => ?_) (fun gQ => absurd (by decide) gQ)
  refine fm_aload_n hc d_An_net_22 rfl rfl ?_
  refine fm_getR (k := 3) (q := 16) hc K_An d_An_net_23 q_358 rfl (by decide) (by omega) (by decide) (by decide) (by decide) rfl (ap_3 hA) ?_
  refine fm_iload_n hc d_An_net_26 rfl rfl ?_
  refine fm_callV (av := [.int (nI k)]) (rest := []) (ob := 16) (ci := 4) (r0 := ("AgentNet$Wire", F_Wi, 3)) (y := y_Wi_has) (bytes := b_Wi_has) hc fm_T0_good (fm_EX_st b x) hex q_405 q_2 q_402 q_403 q_404 pd_Wi_has (by decide) (by omega) (by decide) (by decide) rfl rfl (c_Wi_has_ok hn hhas) ⟨rfl, rfl, Nat.le_of_ble_eq_true rfl, Nat.le_of_ble_eq_true rfl⟩ ⟨Nat.le_of_ble_eq_true rfl, Nat.le_of_ble_eq_true rfl⟩ d_An_net_27 (Nat.le_of_ble_eq_true rfl) (fun r n2 M2 hp => ?_)
  obtain ⟨rfl, hq1, hq2⟩ := hp
  replace hq1 := hq1.symm
  replace hq2 := hq2.symm
  subst hq1 hq2
  refine fm_cnt (z' := (0, 0)) rfl (fm_st (st' := [.int (nI 1)]) rfl ?_)
  refine fm_if_ne (tgt := 41) hc d_An_net_30 rfl (fun _ => ?_) (fun gQ => absurd gQ (by decide))
  refine fm_iload_n hc d_An_net_41 rfl rfl ?_
  refine fm_iconst (v := nI 2) hc d_An_net_42 rfl ?_
  refine fm_icmp_ne (tgt := 64) hc d_An_net_43 rfl (fun _ => ?_) (fun gQ => absurd gQ (by decide))
  refine fm_iload_n hc d_An_net_64 rfl rfl ?_
  refine fm_iconst (v := nI 2) hc d_An_net_65 rfl ?_
  refine fm_icmp_ne (tgt := 80) hc d_An_net_66 rfl (fun _ => ?_) (fun gQ => absurd gQ (by decide))
  refine fm_aload_n hc d_An_net_80 rfl rfl ?_
  refine fm_getR (k := 3) (q := 16) hc K_An d_An_net_81 q_358 rfl (by decide) (by omega) (by decide) (by decide) (by decide) rfl (ap_3 hA) ?_
  refine fm_iload_n hc d_An_net_84 rfl rfl ?_
  refine fm_callV (av := [.int (nI k)]) (rest := []) (ob := 16) (ci := 4) (r0 := ("AgentNet$Wire", F_Wi, 3)) (y := y_Wi_remove) (bytes := b_Wi_remove) hc fm_T0_good (fm_EX_st b x) hex q_856 q_2 q_853 q_854 q_855 pd_Wi_remove (by decide) (by omega) (by decide) (by decide) rfl rfl (c_remove hn hpw hw hk) ⟨rfl, rfl, Nat.le_of_ble_eq_true rfl, Nat.le_of_ble_eq_true rfl⟩ ⟨Nat.le_of_ble_eq_true rfl, Nat.le_of_ble_eq_true rfl⟩ d_An_net_85 (Nat.le_of_ble_eq_true rfl) (fun r n2 M2 hp => ?_)
  obtain ⟨rfl, hq1, r1, r2, r3, r4, r5, r6⟩ := hp
  replace hq1 := hq1.symm
  subst hq1
  revert r1 r2 r3 r4 r5 r6
  generalize M2 = Ma
  intro r1 r2 r3 r4 r5 r6
  have hAa := AP_of2 r6 hA
  refine fm_cnt (z' := (0, 0)) rfl (fm_st (st' := [.ref (18 + 2 * w k)]) rfl ?_)
  refine fm_astore_n (lv' := [(3, .ref (18 + 2 * w k)), (0, .ref 8), (1, .int (nI k)), (2, .int (nI 0))]) hc d_An_net_88 rfl (by decide) rfl ?_
  refine fm_iload_n hc d_An_net_89 rfl rfl ?_
  refine fm_if_ne (tgt := 110) hc d_An_net_90 rfl (fun gQ => absurd (by decide) gQ) (fun _ => ?_)
  refine fm_aload_n hc d_An_net_93 rfl rfl ?_
  refine fm_getR (k := 2) (q := 15) hc K_An d_An_net_94 q_357 rfl (by decide) (by omega) (by decide) (by decide) (by decide) rfl (ap_2 hAa) ?_
  refine fm_aload_n hc d_An_net_97 rfl rfl ?_
  refine fm_getI (k := 4) hc K_Ms d_An_net_98 q_59 rfl (by omega) (by omega) hL.2.2.2.1 (by decide) (by decide) rfl ?_
  refine fm_top (congrArg Value.int (show Ma.1 (18 + 2 * w k) 4 = nI j from (r3.2.2.2.2.1.trans hto))) ?_
  refine fm_aald (q := 90 + 124 * j) (j := j) (len := 4) hc 5 d_An_net_101 (by decide) (by omega) (by decide) (by decide) rfl (by omega) (by decide) (ap_site hAa hj) ?_
  refine fm_aload_n hc d_An_net_102 rfl rfl ?_
  refine fm_aload_n hc d_An_net_103 rfl rfl ?_
  refine fm_getR (k := 3) (q := 16) hc K_An d_An_net_104 q_358 rfl (by decide) (by omega) (by decide) (by decide) (by decide) rfl (ap_3 hAa) ?_
  refine fm_callV (av := [.ref (18 + 2 * w k), .ref 16]) (rest := []) (ob := 90 + 124 * j) (ci := 8) (r0 := ("AgentNet$Site", F_Si, 6)) (y := y_Si_receive) (bytes := b_Si_receive) hc fm_T0_good (fm_EX_st b x) hex q_860 q_10 q_857 q_858 q_859 pd_Si_receive (by omega) (by omega) (ly_Si hj) (by decide) rfl rfl (c_recv_down hn hj (by rw [r5 _ (by omega)]; exact hu)) ⟨rfl, rfl, Nat.le_of_ble_eq_true rfl, Nat.le_of_ble_eq_true rfl⟩ ⟨Nat.le_of_ble_eq_true rfl, Nat.le_of_ble_eq_true rfl⟩ d_An_net_107 (Nat.le_of_ble_eq_true rfl) (fun r n2 M2 hp => ?_)
  obtain ⟨rfl, hq1, hq2⟩ := hp
  replace hq1 := hq1.symm
  replace hq2 := hq2.symm
  subst hq1 hq2
  refine fm_cnt (z' := (0, 0)) rfl (fm_st (st' := []) rfl ?_)
  refine fm_aload_n hc d_An_net_110 rfl rfl ?_
  refine fm_getR (k := 3) (q := 16) hc K_An d_An_net_111 q_358 rfl (by decide) (by omega) (by decide) (by decide) (by decide) rfl (ap_3 hAa) ?_
  refine fm_getI (k := 1) hc K_Wi d_An_net_114 q_85 rfl (by decide) (by omega) (by decide) (by decide) (by decide) rfl ?_
  refine fm_top (congrArg Value.int (show Ma.1 16 1 = nI (ms.length - 1) from (by have := r2.1; rw [hlen] at this; exact this))) ?_
  exact fx_ret (fm_iret hc hr d_An_net_117 (Nat.le_of_ble_eq_true rfl) (Nat.le_of_ble_eq_true rfl) ⟨rfl, rfl, r1, r2, r4, r5, r6⟩)
theorem x_net_up {l : Launch} {b : Nat} {x : Nat → Nat} {D : va_G} {dA : Nat → ClassId} (htr : l.stackTraces = false) {j k mm mq n : Nat} {w : Nat → Nat} {m0 : mg_T} {A : ag_T} {m1 s1 : am_T} {ms : List mg_T} {M : fm_M} (hn : 586 ≤ n) (hA : fm_AP M) (hpw : wi_P M w) (hw : hc_W M w ms) (hk : ms[k]? = some m0) (hj : j < 4) (hto : m0.2.2.2.2.1 = nI j) (hu : ¬ M.1 (90 + 124 * j) 1 = 0) (hM : fm_isM mm) (hQ : fm_isM mq) (hs3 : M.2.2 (90 + 124 * j) 3 = some mm) (hs4 : M.2.2 (90 + 124 * j) 4 = some mq) (h0 : M.1 (90 + 124 * j) 0 = nI j) (hP : fm_MP M mm) (hPq : fm_MP M mq) (hok : mg_ok m0) (ha8 : m0.2.1 < 8) (him : m0.1 = 0 → m0.2.2.2.2.2 = im_B A ∧ ag_wf m0.2.1 A) (h : hc_M M mm m1) (g : hc_M M mq s1) (hma : am_wfs m1) : MetFree l y_An_net (headSpec (Cond.code y_An_net b_An_net 4 (some .int) :: fm_T0) ({ frames := 10, cells := 1, slots := 6, locals := 400 })) (fm_Pc fm_lay fm_nf fm_fk fm_cl b x D dA (fm_tys dA) (fm_EX b x) false [.ref 8, .int (nI k), .int (nI 0)] n M) (fun _ _ _ _ _ => True) (fx_Q fm_lay fm_nf fm_fk fm_cl b x D dA (fun r n' M' => r = some (.int (nI (dv_W j m0 m1 s1 (ms.eraseIdx k)).length)) ∧ n' = n ∧ wi_P M' (fun c => w (rm_s k ms.length c)) ∧ hc_W M' (fun c => w (rm_s k ms.length c)) (dv_W j m0 m1 s1 (ms.eraseIdx k)) ∧ hc_M M' mm (dv_M m0 A m1) ∧ (∀ z, z ≠ 16 → z ≠ 17 → M'.2.2 z = M.2.2 z) ∧ ∀ q, (q < mm ∨ mm + 41 ≤ q) → (q < 16 ∨ 60 ≤ q) → M'.1 q = M.1 q ∧ M'.2.1 q = M.2.1 q) (fun _ _ _ => False) 1 6) := by
  refine fx_enter (by decide) (Nat.le_of_ble_eq_true rfl) ?_
  intro p e s m args below meth c9 hc hr hnm hex htg htab
  have hkl : k < ms.length := (List.getElem?_eq_some_iff.mp hk).1
  have h20 := hw.2.1
  have hhas : ¬ nI k < 0 ∧ ¬ M.1 16 1 ≤ nI k := by
    rw [hw.1]
    exact ⟨fun q => by have := (nI_ltI (a := k) (b := 0) (by omega) (by decide)).mp q; omega, hnle (a := ms.length) (c := k) hkl (by omega)⟩
  have hlen : (ms.eraseIdx k).length = ms.length - 1 := by rw [List.length_eraseIdx, if_pos hkl]
  have hw20 := hpw.2.2.2.1 k (by omega)
  have hL : ms_L n (18 + 2 * w k) := ms_of hn hw20
  have hlo := isM_lo hM
  have hlq := isM_lo hQ
  refine fm_iload_n hc d_An_net_0 rfl rfl ?_
  refine fm_if_eq (tgt := 22) hc d_An_net_1 rfl (fun _ => ?_) (fun gQ => absurd (by decide) gQ)
  refine fm_aload_n hc d_An_net_22 rfl rfl ?_
  refine fm_getR (k := 3) (q := 16) hc K_An d_An_net_23 q_358 rfl (by decide) (by omega) (by decide) (by decide) (by decide) rfl (ap_3 hA) ?_
  refine fm_iload_n hc d_An_net_26 rfl rfl ?_
  refine fm_callV (av := [.int (nI k)]) (rest := []) (ob := 16) (ci := 4) (r0 := ("AgentNet$Wire", F_Wi, 3)) (y := y_Wi_has) (bytes := b_Wi_has) hc fm_T0_good (fm_EX_st b x) hex q_405 q_2 q_402 q_403 q_404 pd_Wi_has (by decide) (by omega) (by decide) (by decide) rfl rfl (c_Wi_has_ok hn hhas) ⟨rfl, rfl, Nat.le_of_ble_eq_true rfl, Nat.le_of_ble_eq_true rfl⟩ ⟨Nat.le_of_ble_eq_true rfl, Nat.le_of_ble_eq_true rfl⟩ d_An_net_27 (Nat.le_of_ble_eq_true rfl) (fun r n2 M2 hp => ?_)
  obtain ⟨rfl, hq1, hq2⟩ := hp
  replace hq1 := hq1.symm
  replace hq2 := hq2.symm
  subst hq1 hq2
  refine fm_cnt (z' := (0, 0)) rfl (fm_st (st' := [.int (nI 1)]) rfl ?_)
  refine fm_if_ne (tgt := 41) hc d_An_net_30 rfl (fun _ => ?_) (fun gQ => absurd gQ (by decide))
  refine fm_iload_n hc d_An_net_41 rfl rfl ?_
  refine fm_iconst (v := nI 2) hc d_An_net_42 rfl ?_
  refine fm_icmp_ne (tgt := 64) hc d_An_net_43 rfl (fun _ => ?_) (fun gQ => absurd gQ (by decide))
  refine fm_iload_n hc d_An_net_64 rfl rfl ?_
  refine fm_iconst (v := nI 2) hc d_An_net_65 rfl ?_
  refine fm_icmp_ne (tgt := 80) hc d_An_net_66 rfl (fun _ => ?_) (fun gQ => absurd gQ (by decide))
  refine fm_aload_n hc d_An_net_80 rfl rfl ?_
  refine fm_getR (k := 3) (q := 16) hc K_An d_An_net_81 q_358 rfl (by decide) (by omega) (by decide) (by decide) (by decide) rfl (ap_3 hA) ?_
  refine fm_iload_n hc d_An_net_84 rfl rfl ?_
  refine fm_callV (av := [.int (nI k)]) (rest := []) (ob := 16) (ci := 4) (r0 := ("AgentNet$Wire", F_Wi, 3)) (y := y_Wi_remove) (bytes := b_Wi_remove) hc fm_T0_good (fm_EX_st b x) hex q_856 q_2 q_853 q_854 q_855 pd_Wi_remove (by decide) (by omega) (by decide) (by decide) rfl rfl (c_remove hn hpw hw hk) ⟨rfl, rfl, Nat.le_of_ble_eq_true rfl, Nat.le_of_ble_eq_true rfl⟩ ⟨Nat.le_of_ble_eq_true rfl, Nat.le_of_ble_eq_true rfl⟩ d_An_net_85 (Nat.le_of_ble_eq_true rfl) (fun r n2 M2 hp => ?_)
  obtain ⟨rfl, hq1, r1, r2, r3, r4, r5, r6⟩ := hp
  replace hq1 := hq1.symm
  subst hq1
  revert r1 r2 r3 r4 r5 r6
  generalize M2 = Ma
  intro r1 r2 r3 r4 r5 r6
  have hAa := AP_of2 r6 hA
  refine fm_cnt (z' := (0, 0)) rfl (fm_st (st' := [.ref (18 + 2 * w k)]) rfl ?_)
  refine fm_astore_n (lv' := [(3, .ref (18 + 2 * w k)), (0, .ref 8), (1, .int (nI k)), (2, .int (nI 0))]) hc d_An_net_88 rfl (by decide) rfl ?_
  refine fm_iload_n hc d_An_net_89 rfl rfl ?_
  refine fm_if_ne (tgt := 110) hc d_An_net_90 rfl (fun gQ => absurd (by decide) gQ) (fun _ => ?_)
  refine fm_aload_n hc d_An_net_93 rfl rfl ?_
  refine fm_getR (k := 2) (q := 15) hc K_An d_An_net_94 q_357 rfl (by decide) (by omega) (by decide) (by decide) (by decide) rfl (ap_2 hAa) ?_
  refine fm_aload_n hc d_An_net_97 rfl rfl ?_
  refine fm_getI (k := 4) hc K_Ms d_An_net_98 q_59 rfl (by omega) (by omega) hL.2.2.2.1 (by decide) (by decide) rfl ?_
  refine fm_top (congrArg Value.int (show Ma.1 (18 + 2 * w k) 4 = nI j from (r3.2.2.2.2.1.trans hto))) ?_
  refine fm_aald (q := 90 + 124 * j) (j := j) (len := 4) hc 5 d_An_net_101 (by decide) (by omega) (by decide) (by decide) rfl (by omega) (by decide) (ap_site hAa hj) ?_
  refine fm_aload_n hc d_An_net_102 rfl rfl ?_
  refine fm_aload_n hc d_An_net_103 rfl rfl ?_
  refine fm_getR (k := 3) (q := 16) hc K_An d_An_net_104 q_358 rfl (by decide) (by omega) (by decide) (by decide) (by decide) rfl (ap_3 hAa) ?_
  refine fm_callV (av := [.ref (18 + 2 * w k), .ref 16]) (rest := []) (ob := 90 + 124 * j) (ci := 8) (r0 := ("AgentNet$Site", F_Si, 6)) (y := y_Si_receive) (bytes := b_Si_receive) hc fm_T0_good (fm_EX_st b x) hex q_860 q_10 q_857 q_858 q_859 pd_Si_receive (by omega) (by omega) (ly_Si hj) (by decide) rfl rfl (c_recv (A := A) (w := (fun c => w (rm_s k ms.length c))) (m0 := m0) (m1 := m1) (s1 := s1) (ms := (ms.eraseIdx k)) hn hj hM hQ (by rw [r6 _ (by omega) (by omega)]; exact hs3) (by rw [r6 _ (by omega) (by omega)]; exact hs4) (by rw [r5 _ (by omega)]; exact h0) (MP_of2 (fun q a b => r6 q (by omega) (by omega)) hP) (MP_of2 (fun q a b => r6 q (by omega) (by omega)) hPq) r1 (by unfold rm_s; rw [if_pos rfl]) r3 hok ha8 him (hcM_of (fun q a b => r5 q (by omega)) (fun q a b => by rw [r4]) h) (hcM_of (fun q a b => r5 q (by omega)) (fun q a b => by rw [r4]) g) r2 hma (by rw [r5 _ (by omega)]; exact hu)) ⟨rfl, rfl, Nat.le_of_ble_eq_true rfl, Nat.le_of_ble_eq_true rfl⟩ ⟨Nat.le_of_ble_eq_true rfl, Nat.le_of_ble_eq_true rfl⟩ d_An_net_107 (Nat.le_of_ble_eq_true rfl) (fun r n2 M2 hp => ?_)
  obtain ⟨rfl, hq1, v1, v2, v3, v4⟩ := hp
  replace hq1 := hq1.symm
  subst hq1
  revert v1 v2 v3 v4
  generalize M2 = Mb
  intro v1 v2 v3 v4
  have hAb := AP_of v3 hAa
  refine fm_cnt (z' := (0, 0)) rfl (fm_st (st' := []) rfl ?_)
  refine fm_aload_n hc d_An_net_110 rfl rfl ?_
  refine fm_getR (k := 3) (q := 16) hc K_An d_An_net_111 q_358 rfl (by decide) (by omega) (by decide) (by decide) (by decide) rfl (ap_3 hAb) ?_
  refine fm_getI (k := 1) hc K_Wi d_An_net_114 q_85 rfl (by decide) (by omega) (by decide) (by decide) (by decide) rfl ?_
  refine fm_top (congrArg Value.int (show Mb.1 16 1 = nI ((dv_W j m0 m1 s1 (ms.eraseIdx k)).length) from v2.1)) ?_
  exact fx_ret (fm_iret hc hr d_An_net_117 (Nat.le_of_ble_eq_true rfl) (Nat.le_of_ble_eq_true rfl) ⟨rfl, rfl, wiP_of v3 r1, v2, v1, fun z a b => by rw [v3]; exact r6 z a b, fun q a b => ⟨(v4 q a b).1.trans (r5 q (by omega)), by rw [(v4 q a b).2, r4]⟩⟩)
