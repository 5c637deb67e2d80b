/-! THE REFERENCE: deliver; net entire -/
theorem hrM_slot0 {b0 a : Nat} {M : fm_M} {S : Nat → Nat} {K O T : Nat → Int32} {G : Nat → ag_T} {H : Nat → Int32} {V : Nat → Nat → Int32} {D : Nat → Nat} (h : hr_M M b0 (S, K, O, T, G, H, V, D)) : hr_M (fm_put1 M 597 (b0 + a) (nI 0)) b0 (va_up S a 0, K, O, T, G, H, V, D) := by
  obtain ⟨h1, h2, h3, h4, h5, h6, h7, h8, h9⟩ := h
  refine ⟨fun c hc => ?_, fun c hc hs => ?_, fun a ha => (p1_other (by omega)).trans (h3 a ha), fun a ha => (p1_other (by omega)).trans (h4 a ha), fun a ha => (p1_other (by omega)).trans (h5 a ha), fun a ha => (p1_other (by omega)).trans (h6 a ha), fun a i ha hi => (p1_other (by omega)).trans (h7 a i ha hi), fun a ha => by rw [p1_other (by omega)]; exact h8 a ha, fun c hc hs => ?_⟩
  · by_cases g : c = a
    · subst g
      rw [p1_same, fm_upS]
    · rw [p1_at (by omega), fm_upN g]
      exact h1 c hc
  · by_cases g : c = a
    · subst g
      rw [fm_upS] at hs
      cases hs
    · rw [fm_upN g] at hs
      exact (p1_other (by omega)).trans (h2 c hc hs)
  · by_cases g : c = a
    · subst g
      rw [fm_upS] at hs
      exact absurd rfl hs
    · rw [fm_upN g] at hs
      obtain ⟨q, hq⟩ := h9 c hc hs
      exact ⟨q, hrG_o1 (Or.inl (by omega)) hq⟩
theorem hrM_come {b0 a : Nat} {M M1 : fm_M} {S : Nat → Nat} {K O T : Nat → Int32} {G : Nat → ag_T} {H : Nat → Int32} {V : Nat → Nat → Int32} {D : Nat → Nat} {A : ag_T} {v f : Int32} {g0 : Nat → Nat} (wf : ∀ c, c < 8 → S c ≠ 0 → ag_ok (G c)) (hb : A.1 7 ≤ 1) (h : hr_M M b0 (S, K, O, T, G, H, V, D)) (hA : hr_G M1 (b0 + a) F_m A g0) (f1 : ∀ q j, ¬ (605 ≤ q ∧ q ≤ 614 ∧ j = b0 + a) → ¬ (q = 586 ∧ j = 45) → M1.1 q j = M.1 q j) (f2 : ∀ q j, ¬ (q = 613 ∧ 6 * (b0 + a) ≤ j ∧ j < 6 * (b0 + a) + 6) → ¬ ((q = 615 ∨ q = 616) ∧ 9 * (b0 + a) ≤ j ∧ j < 9 * (b0 + a) + 9) → M1.2.1 q j = M.2.1 q j) : hr_M (m_arrive M1 (b0 + a) v f) b0 (va_up S a 1, va_up K a v, va_up O a f, T, va_up G a A, H, V, D) := by
  obtain ⟨h1, h2, h3, h4, h5, h6, h7, h8, h9⟩ := h
  unfold m_arrive
  refine ⟨fun c hc => ?_, fun c hc hs => ?_, fun c hc => ?_, fun c hc => ?_, fun c hc => ?_, fun c hc => ?_, fun c i hc hi => ?_, fun c hc => ?_, fun c hc hs => ?_⟩
  · rw [p1_other (by decide), p1_other (by decide)]
    by_cases g : c = a
    · subst g
      rw [p1_same, fm_upS]
    · rw [p1_at (by omega), fm_upN g, f1 _ _ (by omega) (by omega)]
      exact h1 c hc
  · by_cases g : c = a
    · subst g
      rw [fm_upS] at hs
      cases hs
    · rw [fm_upN g] at hs
      rw [p1_other (by decide), p1_other (by decide), p1_other (by decide), f1 _ _ (by omega) (by omega)]
      exact h2 c hc hs
  · rw [p1_other (by decide)]
    by_cases g : c = a
    · subst g
      rw [p1_same, fm_upS]
    · rw [p1_at (by omega), fm_upN g, p1_other (by decide), f1 _ _ (by omega) (by omega)]
      exact h3 c hc
  · by_cases g : c = a
    · subst g
      rw [p1_same, fm_upS]
    · rw [p1_at (by omega), fm_upN g, p1_other (by decide), p1_other (by decide), f1 _ _ (by omega) (by omega)]
      exact h4 c hc
  · rw [p1_other (by decide), p1_other (by decide), p1_other (by decide), f1 _ _ (by omega) (by omega)]
    exact h5 c hc
  · rw [p1_other (by decide), p1_other (by decide), p1_other (by decide), f1 _ _ (by omega) (by omega)]
    exact h6 c hc
  · rw [p1_other (by decide), p1_other (by decide), p1_other (by decide), f1 _ _ (by omega) (by omega)]
    exact h7 c i hc hi
  · rw [p1_other (by decide), p1_other (by decide), p1_other (by decide)]
    by_cases g : c = a
    · subst g
      rw [show M1.1 611 (b0 + c) = nI (A.1 7) from hA.1 7 (by decide) (by decide) trivial]
      rcases (show A.1 7 = 0 ∨ A.1 7 = 1 by omega) with e | e <;> rw [e]
      · exact Or.inl rfl
      · exact Or.inr rfl
    · rw [f1 _ _ (by omega) (by omega)]
      exact h8 c hc
  · by_cases g : c = a
    · subst g
      rw [fm_upS]
      exact ⟨g0, hrG_o1 (Or.inl (by omega)) (hrG_o1 (Or.inl (by omega)) (hrG_o1 (Or.inl (by omega)) hA))⟩
    · rw [fm_upN g] at hs ⊢
      obtain ⟨q, hq⟩ := h9 c hc hs
      exact ⟨q, hrG_o1 (Or.inl (by omega)) (hrG_o1 (Or.inl (by omega)) (hrG_o1 (Or.inl (by omega)) (hrG_at1 (wf c hc hs) hq (fun k _ _ => f1 _ _ (by omega) (by omega)) (fun k hk => f2 _ _ (by omega) (by omega)) (fun k hk => ⟨f2 _ _ (by omega) (by omega), f2 _ _ (by omega) (by omega)⟩))))⟩
theorem fkR_U {b0 gi : Nat} {M M1 : fm_M} (hb : b0 ≤ gi ∧ gi < b0 + 8 ∧ b0 + 8 ≤ 96) (r2 : M1.2.2 = M.2.2) (f1 : ∀ q j, ¬ (605 ≤ q ∧ q ≤ 614 ∧ j = gi) → ¬ (q = 586 ∧ j = 45) → M1.1 q j = M.1 q j) (f2 : ∀ q j, ¬ (q = 613 ∧ 6 * gi ≤ j ∧ j < 6 * gi + 6) → ¬ ((q = 615 ∨ q = 616) ∧ 9 * gi ≤ j ∧ j < 9 * gi + 9) → M1.2.1 q j = M.2.1 q j) : fk_R b0 M M1 := by
  refine ⟨r2, fun i e => f1 586 i (by omega) (by omega), fun q a c => funext fun i => f1 _ _ (by omega) (by omega), fun b1 m a c d => ?_, fun q a => ⟨funext fun i => f1 _ _ (by omega) (by omega), funext fun i => f2 _ _ (by omega) (by omega)⟩⟩
  obtain ⟨S, K, O, T, G, H, V, D⟩ := m
  obtain ⟨h1, h2, h3, h4, h5, h6, h7, h8, h9⟩ := d
  refine ⟨fun a ha => (f1 _ _ (by omega) (by omega)).trans (h1 a ha), fun a ha hs => (f1 _ _ (by omega) (by omega)).trans (h2 a ha hs), fun a ha => (f1 _ _ (by omega) (by omega)).trans (h3 a ha), fun a ha => (f1 _ _ (by omega) (by omega)).trans (h4 a ha), fun a ha => (f1 _ _ (by omega) (by omega)).trans (h5 a ha), fun a ha => (f1 _ _ (by omega) (by omega)).trans (h6 a ha), fun a i ha hi => (f1 _ _ (by omega) (by omega)).trans (h7 a i ha hi), fun a ha => by rw [f1 _ _ (by omega) (by omega)]; exact h8 a ha, fun a ha hs => ?_⟩
  obtain ⟨g, hg⟩ := h9 a ha hs
  exact ⟨g, hrG_at1 (c.2 a ha hs).1 hg (fun k _ _ => f1 _ _ (by omega) (by omega)) (fun k hk => f2 _ _ (by omega) (by omega)) (fun k hk => ⟨f2 _ _ (by omega) (by omega), f2 _ _ (by omega) (by omega)⟩)⟩
theorem rc_deliver {l : Launch} {b : Nat} {x : Nat → Nat} {D : va_G} {dA : Nat → ClassId} {j n : Nat} {m0 : mg_T} {A : ag_T} {m1 s1 : am_T} {ms : List mg_T} {M : fm_M} (hn : 629 ≤ n) (hR : fm_RP M) (hj : j < 4) (hto : m0.2.2.2.2.1 = nI j) (hm : hr_Wk M 20 m0) (hr1 : m0.1 ≤ 1) (ha8 : m0.2.1 < 8) (him : m0.1 = 0 → m0.2.2.2.2.2 = im_B A ∧ ag_wf m0.2.1 A) (h : hr_M M (24 * j) m1) (g : hr_M M (24 * j + 16) s1) (hw : hr_W M ms) (hma : am_wfs m1) (hup : ¬ M.1 595 j = 0) : Met l y_Mo_deliver (Cond.code y_Mo_deliver b_Mo_deliver 5 none :: fm_T0) ({ frames := 3, cells := 0, slots := 0, locals := 120 }) (fm_Pc fm_lay fm_nf fm_fk fm_cl b x D dA (fm_tys dA) (fm_EX b x) false [.ref 586] n M) (fm_Qc fm_lay fm_nf fm_fk fm_cl b x D dA (fun r n' M' => r = none ∧ n' = n ∧ hr_M M' (24 * j) (dv_M m0 A m1) ∧ hr_W M' (dv_W j m0 m1 s1 ms) ∧ fk_R (24 * j) M M')) 0 0 (fm_A b) := by
  refine fm_enter (by decide) (Nat.le_of_ble_eq_true rfl) ?_
  intro p e s m args below meth c9 hc hr hnm hex htg
  obtain ⟨S1, K1, O1, T1, G1, H1, V1, D1⟩ := m1
  obtain ⟨S2, K2, O2, T2, G2, H2, V2, D2⟩ := s1
  obtain ⟨mr, ma, mv, mf, mt, mb⟩ := m0
  obtain ⟨g0, g1, g2, g3, g4, g5, g6, g7⟩ := hm
  have ha8 : ma < 8 := ha8
  have hmr : mr ≤ 1 := hr1
  have hto : mt = nI j := hto
  have s4 : S1 ma ≤ 4 := hma.1 ma ha8
  have hsl : M.1 597 (24 * j + ma) = nI (S1 ma) := h.1 ma ha8
  have gt : M.1 625 20 = nI j := g4.trans hto
  rcases (show mr = 1 ∨ mr = 0 by omega) with rfl | rfl
  · have e1 : dv_W j (1, ma, mv, mf, mt, mb) (S1, K1, O1, T1, G1, H1, V1, D1) (S2, K2, O2, T2, G2, H2, V2, D2) ms = ms := if_pos rfl
    have e2 : dv_M (1, ma, mv, mf, mt, mb) A (S1, K1, O1, T1, G1, H1, V1, D1) = (if S1 ma = 2 ∧ nI ((G1 ma).1 4) = mv then (va_up S1 ma 0, K1, O1, T1, G1, H1, V1, D1) else (S1, K1, O1, T1, G1, H1, V1, D1)) := by simp only [dv_M, ↓reduceIte]
    rw [e1, e2]
    by_cases c1 : S1 ma = 2
    · obtain ⟨gg, hgg⟩ := h.2.2.2.2.2.2.2.2 ma ha8 (by rw [c1]; decide)
      have hh : M.1 608 (24 * j + ma) = nI ((G1 ma).1 4) := hgg.1 4 (by decide) (by decide) trivial
      by_cases c2 : nI ((G1 ma).1 4) = mv
      · refine fm_aload_n hc d_Mo_deliver_0 rfl rfl ?_
        refine fm_getR (k := 42) (q := 625) hc K_Mo d_Mo_deliver_1 q_927 rfl (by decide) (by omega) (by decide) (by decide) (by decide) rfl (rp_to hR) ?_
        refine fm_bipush (v := nI 20) hc d_Mo_deliver_4 rfl ?_
        refine fm_iald (j := 20) (len := 21) hc 0 d_Mo_deliver_6 (by decide) (by omega) (by decide) rfl (by omega) (by decide) ?_
        refine fm_top (congrArg Value.int (show M.1 625 20 = nI j from gt)) ?_
        refine fm_istore_n (lv' := [(1, .int (nI j)), (0, .ref 586)]) hc d_Mo_deliver_7 rfl (by decide) rfl ?_
        refine fm_aload_n hc d_Mo_deliver_8 rfl rfl ?_
        refine fm_getR (k := 39) (q := 622) hc K_Mo d_Mo_deliver_9 q_924 rfl (by decide) (by omega) (by decide) (by decide) (by decide) rfl (rp_who hR) ?_
        refine fm_bipush (v := nI 20) hc d_Mo_deliver_12 rfl ?_
        refine fm_iald (j := 20) (len := 21) hc 0 d_Mo_deliver_14 (by decide) (by omega) (by decide) rfl (by omega) (by decide) ?_
        refine fm_top (congrArg Value.int (show M.1 622 20 = nI ma from g1)) ?_
        refine fm_istore_n (lv' := [(2, .int (nI ma)), (1, .int (nI j)), (0, .ref 586)]) hc d_Mo_deliver_15 rfl (by decide) rfl ?_
        refine fm_bipush (v := nI 24) hc d_Mo_deliver_16 rfl ?_
        refine fm_iload_n hc d_Mo_deliver_18 rfl rfl ?_
        refine fm_imul hc d_Mo_deliver_19 ?_
        refine fm_top (congrArg Value.int (pk_mul 24 j)) ?_
        refine fm_iload_n hc d_Mo_deliver_20 rfl rfl ?_
        refine fm_iadd hc d_Mo_deliver_21 ?_
        refine fm_top (congrArg Value.int (nI_add (24 * j) ma)) ?_
        refine fm_istore_n (lv' := [(3, .int (nI ((24 * j) + ma))), (2, .int (nI ma)), (1, .int (nI j)), (0, .ref 586)]) hc d_Mo_deliver_22 rfl (by decide) rfl ?_
        refine fm_aload_n hc d_Mo_deliver_23 rfl rfl ?_
        refine fm_getR (k := 10) (q := 595) hc K_Mo d_Mo_deliver_24 q_895 rfl (by decide) (by omega) (by decide) (by decide) (by decide) rfl (rp_up hR) ?_
        refine fm_iload_n hc d_Mo_deliver_27 rfl rfl ?_
        refine fm_zald (j := j) (len := 4) hc 1 d_Mo_deliver_28 (by decide) (by omega) (by decide) rfl (by omega) (by decide) ?_
        refine fm_if_ne (tgt := 33) hc d_Mo_deliver_29 rfl (fun _ => ?_) (fun gQ => absurd gQ hup)
        refine fm_aload_n hc d_Mo_deliver_33 rfl rfl ?_
        refine fm_getR (k := 38) (q := 621) hc K_Mo d_Mo_deliver_34 q_923 rfl (by decide) (by omega) (by decide) (by decide) (by decide) rfl (rp_receipt hR) ?_
        refine fm_bipush (v := nI 20) hc d_Mo_deliver_37 rfl ?_
        refine fm_zald (j := 20) (len := 21) hc 1 d_Mo_deliver_39 (by decide) (by omega) (by decide) rfl (by omega) (by decide) ?_
        refine fm_top (congrArg Value.int (show M.1 621 20 = nI 1 from g0)) ?_
        refine fm_if_eq (tgt := 88) hc d_Mo_deliver_40 rfl (fun gQ => absurd gQ (by decide)) (fun _ => ?_)
        refine fm_aload_n hc d_Mo_deliver_43 rfl rfl ?_
        refine fm_getR (k := 12) (q := 597) hc K_Mo d_Mo_deliver_44 q_897 rfl (by decide) (by omega) (by decide) (by decide) (by decide) rfl (rp_slot hR) ?_
        refine fm_iload_n hc d_Mo_deliver_47 rfl rfl ?_
        refine fm_aload_n hc d_Mo_deliver_48 rfl rfl ?_
        refine fm_getR (k := 12) (q := 597) hc K_Mo d_Mo_deliver_49 q_897 rfl (by decide) (by omega) (by decide) (by decide) (by decide) rfl (rp_slot hR) ?_
        refine fm_iload_n hc d_Mo_deliver_52 rfl rfl ?_
        refine fm_iald (j := (24 * j) + ma) (len := 96) hc 0 d_Mo_deliver_53 (by decide) (by omega) (by decide) rfl (by omega) (by decide) ?_
        refine fm_top (congrArg Value.int (show M.1 597 ((24 * j) + ma) = nI (S1 ma) from hsl)) ?_
        refine fm_iconst (v := nI 2) hc d_Mo_deliver_54 rfl ?_
        refine fm_icmp_ne (tgt := 78) hc d_Mo_deliver_55 rfl (fun gQ => absurd (congrArg nI c1) gQ) (fun _ => ?_)
        refine fm_aload_n hc d_Mo_deliver_58 rfl rfl ?_
        refine fm_getR (k := 23) (q := 608) hc K_Mo d_Mo_deliver_59 q_908 rfl (by decide) (by omega) (by decide) (by decide) (by decide) rfl (rp_hops hR) ?_
        refine fm_iload_n hc d_Mo_deliver_62 rfl rfl ?_
        refine fm_iald (j := (24 * j) + ma) (len := 98) hc 0 d_Mo_deliver_63 (by decide) (by omega) (by decide) rfl (by omega) (by decide) ?_
        refine fm_top (congrArg Value.int (show M.1 608 ((24 * j) + ma) = nI ((G1 ma).1 4) from hh)) ?_
        refine fm_aload_n hc d_Mo_deliver_64 rfl rfl ?_
        refine fm_getR (k := 40) (q := 623) hc K_Mo d_Mo_deliver_65 q_925 rfl (by decide) (by omega) (by decide) (by decide) (by decide) rfl (rp_far hR) ?_
        refine fm_bipush (v := nI 20) hc d_Mo_deliver_68 rfl ?_
        refine fm_iald (j := 20) (len := 21) hc 0 d_Mo_deliver_70 (by decide) (by omega) (by decide) rfl (by omega) (by decide) ?_
        refine fm_top (congrArg Value.int (show M.1 623 20 = mv from g2)) ?_
        refine fm_icmp_ne (tgt := 78) hc d_Mo_deliver_71 rfl (fun gQ => absurd c2 gQ) (fun _ => ?_)
        refine fm_iconst (v := nI 0) hc d_Mo_deliver_74 rfl ?_
        refine fm_goto (tgt := 84) hc d_Mo_deliver_75 rfl ?_
        refine fm_iast (j := (24 * j) + ma) (len := 96) (v := nI 0) hc 0 d_Mo_deliver_84 (by decide) (by omega) (by decide) rfl (by omega) (by decide) ?_
        refine fm_goto (tgt := 175) hc d_Mo_deliver_85 rfl ?_
        exact fm_vret hc hr d_Mo_deliver_175 (Nat.le_refl _) (Nat.le_refl _) ⟨rfl, rfl, by rw [if_pos ⟨c1, c2⟩]; exact hrM_slot0 h, hrW_of (fun q i a b => p1_other (by omega)) (p1_other (by decide)) hw, fkR_R (by omega) (frR_p1 (Or.inl (by omega)) (frR_rf _ _))⟩
      · refine fm_aload_n hc d_Mo_deliver_0 rfl rfl ?_
        refine fm_getR (k := 42) (q := 625) hc K_Mo d_Mo_deliver_1 q_927 rfl (by decide) (by omega) (by decide) (by decide) (by decide) rfl (rp_to hR) ?_
        refine fm_bipush (v := nI 20) hc d_Mo_deliver_4 rfl ?_
        refine fm_iald (j := 20) (len := 21) hc 0 d_Mo_deliver_6 (by decide) (by omega) (by decide) rfl (by omega) (by decide) ?_
        refine fm_top (congrArg Value.int (show M.1 625 20 = nI j from gt)) ?_
        refine fm_istore_n (lv' := [(1, .int (nI j)), (0, .ref 586)]) hc d_Mo_deliver_7 rfl (by decide) rfl ?_
        refine fm_aload_n hc d_Mo_deliver_8 rfl rfl ?_
        refine fm_getR (k := 39) (q := 622) hc K_Mo d_Mo_deliver_9 q_924 rfl (by decide) (by omega) (by decide) (by decide) (by decide) rfl (rp_who hR) ?_
        refine fm_bipush (v := nI 20) hc d_Mo_deliver_12 rfl ?_
        refine fm_iald (j := 20) (len := 21) hc 0 d_Mo_deliver_14 (by decide) (by omega) (by decide) rfl (by omega) (by decide) ?_
        refine fm_top (congrArg Value.int (show M.1 622 20 = nI ma from g1)) ?_
        refine fm_istore_n (lv' := [(2, .int (nI ma)), (1, .int (nI j)), (0, .ref 586)]) hc d_Mo_deliver_15 rfl (by decide) rfl ?_
        refine fm_bipush (v := nI 24) hc d_Mo_deliver_16 rfl ?_
        refine fm_iload_n hc d_Mo_deliver_18 rfl rfl ?_
        refine fm_imul hc d_Mo_deliver_19 ?_
        refine fm_top (congrArg Value.int (pk_mul 24 j)) ?_
        refine fm_iload_n hc d_Mo_deliver_20 rfl rfl ?_
        refine fm_iadd hc d_Mo_deliver_21 ?_
        refine fm_top (congrArg Value.int (nI_add (24 * j) ma)) ?_
        refine fm_istore_n (lv' := [(3, .int (nI ((24 * j) + ma))), (2, .int (nI ma)), (1, .int (nI j)), (0, .ref 586)]) hc d_Mo_deliver_22 rfl (by decide) rfl ?_
        refine fm_aload_n hc d_Mo_deliver_23 rfl rfl ?_
        refine fm_getR (k := 10) (q := 595) hc K_Mo d_Mo_deliver_24 q_895 rfl (by decide) (by omega) (by decide) (by decide) (by decide) rfl (rp_up hR) ?_
        refine fm_iload_n hc d_Mo_deliver_27 rfl rfl ?_
        refine fm_zald (j := j) (len := 4) hc 1 d_Mo_deliver_28 (by decide) (by omega) (by decide) rfl (by omega) (by decide) ?_
        refine fm_if_ne (tgt := 33) hc d_Mo_deliver_29 rfl (fun _ => ?_) (fun gQ => absurd gQ hup)
        refine fm_aload_n hc d_Mo_deliver_33 rfl rfl ?_
        refine fm_getR (k := 38) (q := 621) hc K_Mo d_Mo_deliver_34 q_923 rfl (by decide) (by omega) (by decide) (by decide) (by decide) rfl (rp_receipt hR) ?_
        refine fm_bipush (v := nI 20) hc d_Mo_deliver_37 rfl ?_
        refine fm_zald (j := 20) (len := 21) hc 1 d_Mo_deliver_39 (by decide) (by omega) (by decide) rfl (by omega) (by decide) ?_
        refine fm_top (congrArg Value.int (show M.1 621 20 = nI 1 from g0)) ?_
        refine fm_if_eq (tgt := 88) hc d_Mo_deliver_40 rfl (fun gQ => absurd gQ (by decide)) (fun _ => ?_)
        refine fm_aload_n hc d_Mo_deliver_43 rfl rfl ?_
        refine fm_getR (k := 12) (q := 597) hc K_Mo d_Mo_deliver_44 q_897 rfl (by decide) (by omega) (by decide) (by decide) (by decide) rfl (rp_slot hR) ?_
        refine fm_iload_n hc d_Mo_deliver_47 rfl rfl ?_
        refine fm_aload_n hc d_Mo_deliver_48 rfl rfl ?_
        refine fm_getR (k := 12) (q := 597) hc K_Mo d_Mo_deliver_49 q_897 rfl (by decide) (by omega) (by decide) (by decide) (by decide) rfl (rp_slot hR) ?_
        refine fm_iload_n hc d_Mo_deliver_52 rfl rfl ?_
        refine fm_iald (j := (24 * j) + ma) (len := 96) hc 0 d_Mo_deliver_53 (by decide) (by omega) (by decide) rfl (by omega) (by decide) ?_
        refine fm_top (congrArg Value.int (show M.1 597 ((24 * j) + ma) = nI (S1 ma) from hsl)) ?_
        refine fm_iconst (v := nI 2) hc d_Mo_deliver_54 rfl ?_
        refine fm_icmp_ne (tgt := 78) hc d_Mo_deliver_55 rfl (fun gQ => absurd (congrArg nI c1) gQ) (fun _ => ?_)
        refine fm_aload_n hc d_Mo_deliver_58 rfl rfl ?_
        refine fm_getR (k := 23) (q := 608) hc K_Mo d_Mo_deliver_59 q_908 rfl (by decide) (by omega) (by decide) (by decide) (by decide) rfl (rp_hops hR) ?_
        refine fm_iload_n hc d_Mo_deliver_62 rfl rfl ?_
        refine fm_iald (j := (24 * j) + ma) (len := 98) hc 0 d_Mo_deliver_63 (by decide) (by omega) (by decide) rfl (by omega) (by decide) ?_
        refine fm_top (congrArg Value.int (show M.1 608 ((24 * j) + ma) = nI ((G1 ma).1 4) from hh)) ?_
        refine fm_aload_n hc d_Mo_deliver_64 rfl rfl ?_
        refine fm_getR (k := 40) (q := 623) hc K_Mo d_Mo_deliver_65 q_925 rfl (by decide) (by omega) (by decide) (by decide) (by decide) rfl (rp_far hR) ?_
        refine fm_bipush (v := nI 20) hc d_Mo_deliver_68 rfl ?_
        refine fm_iald (j := 20) (len := 21) hc 0 d_Mo_deliver_70 (by decide) (by omega) (by decide) rfl (by omega) (by decide) ?_
        refine fm_top (congrArg Value.int (show M.1 623 20 = mv from g2)) ?_
        refine fm_icmp_ne (tgt := 78) hc d_Mo_deliver_71 rfl (fun _ => ?_) (fun gQ => absurd gQ c2)
        refine fm_aload_n hc d_Mo_deliver_78 rfl rfl ?_
        refine fm_getR (k := 12) (q := 597) hc K_Mo d_Mo_deliver_79 q_897 rfl (by decide) (by omega) (by decide) (by decide) (by decide) rfl (rp_slot hR) ?_
        refine fm_iload_n hc d_Mo_deliver_82 rfl rfl ?_
        refine fm_iald (j := (24 * j) + ma) (len := 96) hc 0 d_Mo_deliver_83 (by decide) (by omega) (by decide) rfl (by omega) (by decide) ?_
        refine fm_top (congrArg Value.int (show M.1 597 ((24 * j) + ma) = nI (S1 ma) from hsl)) ?_
        refine fm_iast (j := (24 * j) + ma) (len := 96) (v := nI (S1 ma)) hc 0 d_Mo_deliver_84 (by decide) (by omega) (by decide) rfl (by omega) (by decide) ?_
        refine fm_mem (M' := M) rfl (p1_id hsl) ?_
        refine fm_goto (tgt := 175) hc d_Mo_deliver_85 rfl ?_
        exact fm_vret hc hr d_Mo_deliver_175 (Nat.le_refl _) (Nat.le_refl _) ⟨rfl, rfl, by rw [if_neg (fun q => c2 q.2)]; exact h, hw, fkR_rf _ _⟩
    · refine fm_aload_n hc d_Mo_deliver_0 rfl rfl ?_
      refine fm_getR (k := 42) (q := 625) hc K_Mo d_Mo_deliver_1 q_927 rfl (by decide) (by omega) (by decide) (by decide) (by decide) rfl (rp_to hR) ?_
      refine fm_bipush (v := nI 20) hc d_Mo_deliver_4 rfl ?_
      refine fm_iald (j := 20) (len := 21) hc 0 d_Mo_deliver_6 (by decide) (by omega) (by decide) rfl (by omega) (by decide) ?_
      refine fm_top (congrArg Value.int (show M.1 625 20 = nI j from gt)) ?_
      refine fm_istore_n (lv' := [(1, .int (nI j)), (0, .ref 586)]) hc d_Mo_deliver_7 rfl (by decide) rfl ?_
      refine fm_aload_n hc d_Mo_deliver_8 rfl rfl ?_
      refine fm_getR (k := 39) (q := 622) hc K_Mo d_Mo_deliver_9 q_924 rfl (by decide) (by omega) (by decide) (by decide) (by decide) rfl (rp_who hR) ?_
      refine fm_bipush (v := nI 20) hc d_Mo_deliver_12 rfl ?_
      refine fm_iald (j := 20) (len := 21) hc 0 d_Mo_deliver_14 (by decide) (by omega) (by decide) rfl (by omega) (by decide) ?_
      refine fm_top (congrArg Value.int (show M.1 622 20 = nI ma from g1)) ?_
      refine fm_istore_n (lv' := [(2, .int (nI ma)), (1, .int (nI j)), (0, .ref 586)]) hc d_Mo_deliver_15 rfl (by decide) rfl ?_
      refine fm_bipush (v := nI 24) hc d_Mo_deliver_16 rfl ?_
      refine fm_iload_n hc d_Mo_deliver_18 rfl rfl ?_
      refine fm_imul hc d_Mo_deliver_19 ?_
      refine fm_top (congrArg Value.int (pk_mul 24 j)) ?_
      refine fm_iload_n hc d_Mo_deliver_20 rfl rfl ?_
      refine fm_iadd hc d_Mo_deliver_21 ?_
      refine fm_top (congrArg Value.int (nI_add (24 * j) ma)) ?_
      refine fm_istore_n (lv' := [(3, .int (nI ((24 * j) + ma))), (2, .int (nI ma)), (1, .int (nI j)), (0, .ref 586)]) hc d_Mo_deliver_22 rfl (by decide) rfl ?_
      refine fm_aload_n hc d_Mo_deliver_23 rfl rfl ?_
      refine fm_getR (k := 10) (q := 595) hc K_Mo d_Mo_deliver_24 q_895 rfl (by decide) (by omega) (by decide) (by decide) (by decide) rfl (rp_up hR) ?_
      refine fm_iload_n hc d_Mo_deliver_27 rfl rfl ?_
      refine fm_zald (j := j) (len := 4) hc 1 d_Mo_deliver_28 (by decide) (by omega) (by decide) rfl (by omega) (by decide) ?_
      refine fm_if_ne (tgt := 33) hc d_Mo_deliver_29 rfl (fun _ => ?_) (fun gQ => absurd gQ hup)
      refine fm_aload_n hc d_Mo_deliver_33 rfl rfl ?_
      refine fm_getR (k := 38) (q := 621) hc K_Mo d_Mo_deliver_34 q_923 rfl (by decide) (by omega) (by decide) (by decide) (by decide) rfl (rp_receipt hR) ?_
      refine fm_bipush (v := nI 20) hc d_Mo_deliver_37 rfl ?_
      refine fm_zald (j := 20) (len := 21) hc 1 d_Mo_deliver_39 (by decide) (by omega) (by decide) rfl (by omega) (by decide) ?_
      refine fm_top (congrArg Value.int (show M.1 621 20 = nI 1 from g0)) ?_
      refine fm_if_eq (tgt := 88) hc d_Mo_deliver_40 rfl (fun gQ => absurd gQ (by decide)) (fun _ => ?_)
      refine fm_aload_n hc d_Mo_deliver_43 rfl rfl ?_
      refine fm_getR (k := 12) (q := 597) hc K_Mo d_Mo_deliver_44 q_897 rfl (by decide) (by omega) (by decide) (by decide) (by decide) rfl (rp_slot hR) ?_
      refine fm_iload_n hc d_Mo_deliver_47 rfl rfl ?_
      refine fm_aload_n hc d_Mo_deliver_48 rfl rfl ?_
      refine fm_getR (k := 12) (q := 597) hc K_Mo d_Mo_deliver_49 q_897 rfl (by decide) (by omega) (by decide) (by decide) (by decide) rfl (rp_slot hR) ?_
      refine fm_iload_n hc d_Mo_deliver_52 rfl rfl ?_
      refine fm_iald (j := (24 * j) + ma) (len := 96) hc 0 d_Mo_deliver_53 (by decide) (by omega) (by decide) rfl (by omega) (by decide) ?_
      refine fm_top (congrArg Value.int (show M.1 597 ((24 * j) + ma) = nI (S1 ma) from hsl)) ?_
      refine fm_iconst (v := nI 2) hc d_Mo_deliver_54 rfl ?_
      refine fm_icmp_ne (tgt := 78) hc d_Mo_deliver_55 rfl (fun _ => ?_) (fun gQ => absurd gQ (fun q => c1 (nI_inj (by omega) (by decide) q)))
      refine fm_aload_n hc d_Mo_deliver_78 rfl rfl ?_
      refine fm_getR (k := 12) (q := 597) hc K_Mo d_Mo_deliver_79 q_897 rfl (by decide) (by omega) (by decide) (by decide) (by decide) rfl (rp_slot hR) ?_
      refine fm_iload_n hc d_Mo_deliver_82 rfl rfl ?_
      refine fm_iald (j := (24 * j) + ma) (len := 96) hc 0 d_Mo_deliver_83 (by decide) (by omega) (by decide) rfl (by omega) (by decide) ?_
      refine fm_top (congrArg Value.int (show M.1 597 ((24 * j) + ma) = nI (S1 ma) from hsl)) ?_
      refine fm_iast (j := (24 * j) + ma) (len := 96) (v := nI (S1 ma)) hc 0 d_Mo_deliver_84 (by decide) (by omega) (by decide) rfl (by omega) (by decide) ?_
      refine fm_mem (M' := M) rfl (p1_id hsl) ?_
      refine fm_goto (tgt := 175) hc d_Mo_deliver_85 rfl ?_
      exact fm_vret hc hr d_Mo_deliver_175 (Nat.le_refl _) (Nat.le_refl _) ⟨rfl, rfl, by rw [if_neg (fun q => c1 q.1)]; exact h, hw, fkR_rf _ _⟩
  · obtain ⟨im1, wfA⟩ := him rfl
    have im1 : mb = im_B A := im1
    subst im1
    have wfA : ag_wf ma A := wfA
    have w7 : A.1 7 ≤ 1 := wfA.2.2.2.2.2.2.2.2
    have e1 : dv_W j (0, ma, mv, mf, mt, im_B A) (S1, K1, O1, T1, G1, H1, V1, D1) (S2, K2, O2, T2, G2, H2, V2, D2) ms = (if K1 ma < mv then ms else if K2 ma < mv then ms else wi_send ms (1, ma, mv, nI j, mf, [])) := if_neg (show ¬ 0 = 1 by decide)
    have e2 : dv_M (0, ma, mv, mf, mt, im_B A) A (S1, K1, O1, T1, G1, H1, V1, D1) = (if K1 ma < mv then (va_up S1 ma 1, va_up K1 ma mv, va_up O1 ma mf, T1, va_up G1 ma A, H1, V1, D1) else (S1, K1, O1, T1, G1, H1, V1, D1)) := by
      simp only [dv_M]
      exact if_neg (show ¬ (0 : Nat) = 1 by decide)
    rw [e1, e2]
    have kn : M.1 599 (24 * j + ma) = K1 ma := h.2.2.1 ma ha8
    have kq : M.1 599 (24 * j + ma + 16) = K2 ma := by rw [show 24 * j + ma + 16 = 24 * j + 16 + ma by omega]; exact g.2.2.1 ma ha8
    have hir : ir_at M 20 0 (im_B A) := fun i x hx => g7 i x hx
    by_cases c1 : K1 ma < mv
    · refine fm_aload_n hc d_Mo_deliver_0 rfl rfl ?_
      refine fm_getR (k := 42) (q := 625) hc K_Mo d_Mo_deliver_1 q_927 rfl (by decide) (by omega) (by decide) (by decide) (by decide) rfl (rp_to hR) ?_
      refine fm_bipush (v := nI 20) hc d_Mo_deliver_4 rfl ?_
      refine fm_iald (j := 20) (len := 21) hc 0 d_Mo_deliver_6 (by decide) (by omega) (by decide) rfl (by omega) (by decide) ?_
      refine fm_top (congrArg Value.int (show M.1 625 20 = nI j from gt)) ?_
      refine fm_istore_n (lv' := [(1, .int (nI j)), (0, .ref 586)]) hc d_Mo_deliver_7 rfl (by decide) rfl ?_
      refine fm_aload_n hc d_Mo_deliver_8 rfl rfl ?_
      refine fm_getR (k := 39) (q := 622) hc K_Mo d_Mo_deliver_9 q_924 rfl (by decide) (by omega) (by decide) (by decide) (by decide) rfl (rp_who hR) ?_
      refine fm_bipush (v := nI 20) hc d_Mo_deliver_12 rfl ?_
      refine fm_iald (j := 20) (len := 21) hc 0 d_Mo_deliver_14 (by decide) (by omega) (by decide) rfl (by omega) (by decide) ?_
      refine fm_top (congrArg Value.int (show M.1 622 20 = nI ma from g1)) ?_
      refine fm_istore_n (lv' := [(2, .int (nI ma)), (1, .int (nI j)), (0, .ref 586)]) hc d_Mo_deliver_15 rfl (by decide) rfl ?_
      refine fm_bipush (v := nI 24) hc d_Mo_deliver_16 rfl ?_
      refine fm_iload_n hc d_Mo_deliver_18 rfl rfl ?_
      refine fm_imul hc d_Mo_deliver_19 ?_
      refine fm_top (congrArg Value.int (pk_mul 24 j)) ?_
      refine fm_iload_n hc d_Mo_deliver_20 rfl rfl ?_
      refine fm_iadd hc d_Mo_deliver_21 ?_
      refine fm_top (congrArg Value.int (nI_add (24 * j) ma)) ?_
      refine fm_istore_n (lv' := [(3, .int (nI ((24 * j) + ma))), (2, .int (nI ma)), (1, .int (nI j)), (0, .ref 586)]) hc d_Mo_deliver_22 rfl (by decide) rfl ?_
      refine fm_aload_n hc d_Mo_deliver_23 rfl rfl ?_
      refine fm_getR (k := 10) (q := 595) hc K_Mo d_Mo_deliver_24 q_895 rfl (by decide) (by omega) (by decide) (by decide) (by decide) rfl (rp_up hR) ?_
      refine fm_iload_n hc d_Mo_deliver_27 rfl rfl ?_
      refine fm_zald (j := j) (len := 4) hc 1 d_Mo_deliver_28 (by decide) (by omega) (by decide) rfl (by omega) (by decide) ?_
      refine fm_if_ne (tgt := 33) hc d_Mo_deliver_29 rfl (fun _ => ?_) (fun gQ => absurd gQ hup)
      refine fm_aload_n hc d_Mo_deliver_33 rfl rfl ?_
      refine fm_getR (k := 38) (q := 621) hc K_Mo d_Mo_deliver_34 q_923 rfl (by decide) (by omega) (by decide) (by decide) (by decide) rfl (rp_receipt hR) ?_
      refine fm_bipush (v := nI 20) hc d_Mo_deliver_37 rfl ?_
      refine fm_zald (j := 20) (len := 21) hc 1 d_Mo_deliver_39 (by decide) (by omega) (by decide) rfl (by omega) (by decide) ?_
      refine fm_top (congrArg Value.int (show M.1 621 20 = nI 0 from g0)) ?_
      refine fm_if_eq (tgt := 88) hc d_Mo_deliver_40 rfl (fun _ => ?_) (fun gQ => absurd (by decide) gQ)
      refine fm_aload_n hc d_Mo_deliver_88 rfl rfl ?_
      refine fm_getR (k := 40) (q := 623) hc K_Mo d_Mo_deliver_89 q_925 rfl (by decide) (by omega) (by decide) (by decide) (by decide) rfl (rp_far hR) ?_
      refine fm_bipush (v := nI 20) hc d_Mo_deliver_92 rfl ?_
      refine fm_iald (j := 20) (len := 21) hc 0 d_Mo_deliver_94 (by decide) (by omega) (by decide) rfl (by omega) (by decide) ?_
      refine fm_top (congrArg Value.int (show M.1 623 20 = mv from g2)) ?_
      refine fm_aload_n hc d_Mo_deliver_95 rfl rfl ?_
      refine fm_getR (k := 14) (q := 599) hc K_Mo d_Mo_deliver_96 q_899 rfl (by decide) (by omega) (by decide) (by decide) (by decide) rfl (rp_known hR) ?_
      refine fm_iload_n hc d_Mo_deliver_99 rfl rfl ?_
      refine fm_iald (j := (24 * j) + ma) (len := 96) hc 0 d_Mo_deliver_100 (by decide) (by omega) (by decide) rfl (by omega) (by decide) ?_
      refine fm_top (congrArg Value.int (show M.1 599 ((24 * j) + ma) = K1 ma from kn)) ?_
      refine fm_icmp_le (tgt := 133) hc d_Mo_deliver_101 rfl (fun gQ => absurd gQ (Int32.not_le.mpr c1)) (fun _ => ?_)
      refine fm_aload_n hc d_Mo_deliver_104 rfl rfl ?_
      refine fm_bipush (v := nI 20) hc d_Mo_deliver_105 rfl ?_
      refine fm_iload_n hc d_Mo_deliver_107 rfl rfl ?_
      refine fm_callV (av := [.int (nI 20), .int (nI ((24 * j) + ma))]) (rest := []) (ob := 586) (ci := 11) (r0 := ("AgentNetModel", F_Mo, 51)) (y := y_Mo_unpack) (bytes := b_Mo_unpack) hc fm_T0_good (fm_EX_st b x) hex q_1230 q_13 q_1227 q_1229 qs_Mo_unpack pd_Mo_unpack (by decide) (by omega) (by decide) (by decide) rfl rfl (rc_unpack (kk := 20) (a := ma) (A := A) hn hR (by omega) (by omega) ha8 hir wfA) ⟨rfl, rfl, Nat.le_of_ble_eq_true rfl, Nat.le_of_ble_eq_true rfl⟩ ⟨Nat.le_of_ble_eq_true rfl, Nat.le_of_ble_eq_true rfl⟩ d_Mo_deliver_108 (Nat.le_of_ble_eq_true rfl) (fun r n2 M2 hp => ?_)
      obtain ⟨rfl, hq1, r1, r2, r3, r4⟩ := hp
      replace hq1 := hq1.symm
      subst hq1
      revert r1 r2 r3 r4
      generalize M2 = Ma
      intro r1 r2 r3 r4
      have hRa : fm_RP Ma := fun q hq => by rw [r2]; exact hR q hq
      have k2 : Ma.1 623 20 = mv := (r3 _ _ (by omega) (by omega)).trans g2
      have k3 : Ma.1 624 20 = mf := (r3 _ _ (by omega) (by omega)).trans g3
      refine fm_cnt (z' := (0, 0)) rfl (fm_st (st' := []) rfl ?_)
      refine fm_aload_n hc d_Mo_deliver_111 rfl rfl ?_
      refine fm_iload_n hc d_Mo_deliver_112 rfl rfl ?_
      refine fm_aload_n hc d_Mo_deliver_113 rfl rfl ?_
      refine fm_getR (k := 40) (q := 623) hc K_Mo d_Mo_deliver_114 q_925 rfl (by decide) (by omega) (by decide) (by decide) (by decide) rfl (rp_far hRa) ?_
      refine fm_bipush (v := nI 20) hc d_Mo_deliver_117 rfl ?_
      refine fm_iald (j := 20) (len := 21) hc 0 d_Mo_deliver_119 (by decide) (by omega) (by decide) rfl (by omega) (by decide) ?_
      refine fm_top (congrArg Value.int (show Ma.1 623 20 = mv from k2)) ?_
      refine fm_aload_n hc d_Mo_deliver_120 rfl rfl ?_
      refine fm_getR (k := 41) (q := 624) hc K_Mo d_Mo_deliver_121 q_926 rfl (by decide) (by omega) (by decide) (by decide) (by decide) rfl (rp_from hRa) ?_
      refine fm_bipush (v := nI 20) hc d_Mo_deliver_124 rfl ?_
      refine fm_iald (j := 20) (len := 21) hc 0 d_Mo_deliver_126 (by decide) (by omega) (by decide) rfl (by omega) (by decide) ?_
      refine fm_top (congrArg Value.int (show Ma.1 624 20 = mf from k3)) ?_
      refine fm_callV (av := [.int (nI ((24 * j) + ma)), .int mv, .int mf]) (rest := []) (ob := 586) (ci := 11) (r0 := ("AgentNetModel", F_Mo, 51)) (y := y_Mo_arriveAt) (bytes := b_Mo_arriveAt) hc fm_T0_good (fm_EX_st b x) hex q_1070 q_13 q_1067 q_1069 qs_Mo_arriveAt pd_Mo_arriveAt (by decide) (by omega) (by decide) (by decide) rfl rfl (c_arriveAt (g := 24 * j + ma) (v := mv) (w := mf) hn hRa (by omega)) ⟨rfl, rfl, Nat.le_of_ble_eq_true rfl, Nat.le_of_ble_eq_true rfl⟩ ⟨Nat.le_of_ble_eq_true rfl, Nat.le_of_ble_eq_true rfl⟩ d_Mo_deliver_127 (Nat.le_of_ble_eq_true rfl) (fun r n2 M2 hp => ?_)
      obtain ⟨rfl, hq1, hq2⟩ := hp
      replace hq1 := hq1.symm
      replace hq2 := hq2.symm
      subst hq1 hq2
      refine fm_cnt (z' := (0, 0)) rfl (fm_st (st' := []) rfl ?_)
      refine fm_goto (tgt := 175) hc d_Mo_deliver_130 rfl ?_
      exact fm_vret hc hr d_Mo_deliver_175 (Nat.le_refl _) (Nat.le_refl _) ⟨rfl, rfl, by rw [if_pos c1]; exact hrM_come (fun c hc hs => (hma.2 c hc hs).1) w7 h r1 r3 r4, by rw [if_pos c1]; exact hrW_of (fun q i a b => (p1_other (by omega)).trans ((p1_other (by omega)).trans ((p1_other (by omega)).trans (r3 q i (by omega) (by omega))))) ((p1_other (by decide)).trans ((p1_other (by decide)).trans ((p1_other (by decide)).trans (r3 _ _ (by omega) (by omega))))) hw, fkR_tr (fkR_U (by omega) r2 r3 r4) (fkR_R (by omega) (frR_p1 (Or.inl (by omega)) (frR_p1 (Or.inl (by omega)) (frR_p1 (Or.inl (by omega)) (frR_rf _ _)))))⟩
    · by_cases c2 : K2 ma < mv
      · refine fm_aload_n hc d_Mo_deliver_0 rfl rfl ?_
        refine fm_getR (k := 42) (q := 625) hc K_Mo d_Mo_deliver_1 q_927 rfl (by decide) (by omega) (by decide) (by decide) (by decide) rfl (rp_to hR) ?_
        refine fm_bipush (v := nI 20) hc d_Mo_deliver_4 rfl ?_
        refine fm_iald (j := 20) (len := 21) hc 0 d_Mo_deliver_6 (by decide) (by omega) (by decide) rfl (by omega) (by decide) ?_
        refine fm_top (congrArg Value.int (show M.1 625 20 = nI j from gt)) ?_
        refine fm_istore_n (lv' := [(1, .int (nI j)), (0, .ref 586)]) hc d_Mo_deliver_7 rfl (by decide) rfl ?_
        refine fm_aload_n hc d_Mo_deliver_8 rfl rfl ?_
        refine fm_getR (k := 39) (q := 622) hc K_Mo d_Mo_deliver_9 q_924 rfl (by decide) (by omega) (by decide) (by decide) (by decide) rfl (rp_who hR) ?_
        refine fm_bipush (v := nI 20) hc d_Mo_deliver_12 rfl ?_
        refine fm_iald (j := 20) (len := 21) hc 0 d_Mo_deliver_14 (by decide) (by omega) (by decide) rfl (by omega) (by decide) ?_
        refine fm_top (congrArg Value.int (show M.1 622 20 = nI ma from g1)) ?_
        refine fm_istore_n (lv' := [(2, .int (nI ma)), (1, .int (nI j)), (0, .ref 586)]) hc d_Mo_deliver_15 rfl (by decide) rfl ?_
        refine fm_bipush (v := nI 24) hc d_Mo_deliver_16 rfl ?_
        refine fm_iload_n hc d_Mo_deliver_18 rfl rfl ?_
        refine fm_imul hc d_Mo_deliver_19 ?_
        refine fm_top (congrArg Value.int (pk_mul 24 j)) ?_
        refine fm_iload_n hc d_Mo_deliver_20 rfl rfl ?_
        refine fm_iadd hc d_Mo_deliver_21 ?_
        refine fm_top (congrArg Value.int (nI_add (24 * j) ma)) ?_
        refine fm_istore_n (lv' := [(3, .int (nI ((24 * j) + ma))), (2, .int (nI ma)), (1, .int (nI j)), (0, .ref 586)]) hc d_Mo_deliver_22 rfl (by decide) rfl ?_
        refine fm_aload_n hc d_Mo_deliver_23 rfl rfl ?_
        refine fm_getR (k := 10) (q := 595) hc K_Mo d_Mo_deliver_24 q_895 rfl (by decide) (by omega) (by decide) (by decide) (by decide) rfl (rp_up hR) ?_
        refine fm_iload_n hc d_Mo_deliver_27 rfl rfl ?_
        refine fm_zald (j := j) (len := 4) hc 1 d_Mo_deliver_28 (by decide) (by omega) (by decide) rfl (by omega) (by decide) ?_
        refine fm_if_ne (tgt := 33) hc d_Mo_deliver_29 rfl (fun _ => ?_) (fun gQ => absurd gQ hup)
        refine fm_aload_n hc d_Mo_deliver_33 rfl rfl ?_
        refine fm_getR (k := 38) (q := 621) hc K_Mo d_Mo_deliver_34 q_923 rfl (by decide) (by omega) (by decide) (by decide) (by decide) rfl (rp_receipt hR) ?_
        refine fm_bipush (v := nI 20) hc d_Mo_deliver_37 rfl ?_
        refine fm_zald (j := 20) (len := 21) hc 1 d_Mo_deliver_39 (by decide) (by omega) (by decide) rfl (by omega) (by decide) ?_
        refine fm_top (congrArg Value.int (show M.1 621 20 = nI 0 from g0)) ?_
        refine fm_if_eq (tgt := 88) hc d_Mo_deliver_40 rfl (fun _ => ?_) (fun gQ => absurd (by decide) gQ)
        refine fm_aload_n hc d_Mo_deliver_88 rfl rfl ?_
        refine fm_getR (k := 40) (q := 623) hc K_Mo d_Mo_deliver_89 q_925 rfl (by decide) (by omega) (by decide) (by decide) (by decide) rfl (rp_far hR) ?_
        refine fm_bipush (v := nI 20) hc d_Mo_deliver_92 rfl ?_
        refine fm_iald (j := 20) (len := 21) hc 0 d_Mo_deliver_94 (by decide) (by omega) (by decide) rfl (by omega) (by decide) ?_
        refine fm_top (congrArg Value.int (show M.1 623 20 = mv from g2)) ?_
        refine fm_aload_n hc d_Mo_deliver_95 rfl rfl ?_
        refine fm_getR (k := 14) (q := 599) hc K_Mo d_Mo_deliver_96 q_899 rfl (by decide) (by omega) (by decide) (by decide) (by decide) rfl (rp_known hR) ?_
        refine fm_iload_n hc d_Mo_deliver_99 rfl rfl ?_
        refine fm_iald (j := (24 * j) + ma) (len := 96) hc 0 d_Mo_deliver_100 (by decide) (by omega) (by decide) rfl (by omega) (by decide) ?_
        refine fm_top (congrArg Value.int (show M.1 599 ((24 * j) + ma) = K1 ma from kn)) ?_
        refine fm_icmp_le (tgt := 133) hc d_Mo_deliver_101 rfl (fun _ => ?_) (fun gQ => absurd (Int32.not_lt.mp c1) gQ)
        refine fm_aload_n hc d_Mo_deliver_133 rfl rfl ?_
        refine fm_getR (k := 14) (q := 599) hc K_Mo d_Mo_deliver_134 q_899 rfl (by decide) (by omega) (by decide) (by decide) (by decide) rfl (rp_known hR) ?_
        refine fm_iload_n hc d_Mo_deliver_137 rfl rfl ?_
        refine fm_bipush (v := nI 16) hc d_Mo_deliver_138 rfl ?_
        refine fm_iadd hc d_Mo_deliver_140 ?_
        refine fm_top (congrArg Value.int (nI_add ((24 * j) + ma) 16)) ?_
        refine fm_iald (j := ((24 * j) + ma) + 16) (len := 96) hc 0 d_Mo_deliver_141 (by decide) (by omega) (by decide) rfl (by omega) (by decide) ?_
        refine fm_top (congrArg Value.int (show M.1 599 (((24 * j) + ma) + 16) = K2 ma from kq)) ?_
        refine fm_aload_n hc d_Mo_deliver_142 rfl rfl ?_
        refine fm_getR (k := 40) (q := 623) hc K_Mo d_Mo_deliver_143 q_925 rfl (by decide) (by omega) (by decide) (by decide) (by decide) rfl (rp_far hR) ?_
        refine fm_bipush (v := nI 20) hc d_Mo_deliver_146 rfl ?_
        refine fm_iald (j := 20) (len := 21) hc 0 d_Mo_deliver_148 (by decide) (by omega) (by decide) rfl (by omega) (by decide) ?_
        refine fm_top (congrArg Value.int (show M.1 623 20 = mv from g2)) ?_
        refine fm_icmp_lt (tgt := 175) hc d_Mo_deliver_149 rfl (fun _ => ?_) (fun gQ => absurd c2 gQ)
        exact fm_vret hc hr d_Mo_deliver_175 (Nat.le_refl _) (Nat.le_refl _) ⟨rfl, rfl, by rw [if_neg c1]; exact h, by rw [if_neg c1, if_pos c2]; exact hw, fkR_rf _ _⟩
      · refine fm_aload_n hc d_Mo_deliver_0 rfl rfl ?_
        refine fm_getR (k := 42) (q := 625) hc K_Mo d_Mo_deliver_1 q_927 rfl (by decide) (by omega) (by decide) (by decide) (by decide) rfl (rp_to hR) ?_
        refine fm_bipush (v := nI 20) hc d_Mo_deliver_4 rfl ?_
        refine fm_iald (j := 20) (len := 21) hc 0 d_Mo_deliver_6 (by decide) (by omega) (by decide) rfl (by omega) (by decide) ?_
        refine fm_top (congrArg Value.int (show M.1 625 20 = nI j from gt)) ?_
        refine fm_istore_n (lv' := [(1, .int (nI j)), (0, .ref 586)]) hc d_Mo_deliver_7 rfl (by decide) rfl ?_
        refine fm_aload_n hc d_Mo_deliver_8 rfl rfl ?_
        refine fm_getR (k := 39) (q := 622) hc K_Mo d_Mo_deliver_9 q_924 rfl (by decide) (by omega) (by decide) (by decide) (by decide) rfl (rp_who hR) ?_
        refine fm_bipush (v := nI 20) hc d_Mo_deliver_12 rfl ?_
        refine fm_iald (j := 20) (len := 21) hc 0 d_Mo_deliver_14 (by decide) (by omega) (by decide) rfl (by omega) (by decide) ?_
        refine fm_top (congrArg Value.int (show M.1 622 20 = nI ma from g1)) ?_
        refine fm_istore_n (lv' := [(2, .int (nI ma)), (1, .int (nI j)), (0, .ref 586)]) hc d_Mo_deliver_15 rfl (by decide) rfl ?_
        refine fm_bipush (v := nI 24) hc d_Mo_deliver_16 rfl ?_
        refine fm_iload_n hc d_Mo_deliver_18 rfl rfl ?_
        refine fm_imul hc d_Mo_deliver_19 ?_
        refine fm_top (congrArg Value.int (pk_mul 24 j)) ?_
        refine fm_iload_n hc d_Mo_deliver_20 rfl rfl ?_
        refine fm_iadd hc d_Mo_deliver_21 ?_
        refine fm_top (congrArg Value.int (nI_add (24 * j) ma)) ?_
        refine fm_istore_n (lv' := [(3, .int (nI ((24 * j) + ma))), (2, .int (nI ma)), (1, .int (nI j)), (0, .ref 586)]) hc d_Mo_deliver_22 rfl (by decide) rfl ?_
        refine fm_aload_n hc d_Mo_deliver_23 rfl rfl ?_
        refine fm_getR (k := 10) (q := 595) hc K_Mo d_Mo_deliver_24 q_895 rfl (by decide) (by omega) (by decide) (by decide) (by decide) rfl (rp_up hR) ?_
        refine fm_iload_n hc d_Mo_deliver_27 rfl rfl ?_
        refine fm_zald (j := j) (len := 4) hc 1 d_Mo_deliver_28 (by decide) (by omega) (by decide) rfl (by omega) (by decide) ?_
        refine fm_if_ne (tgt := 33) hc d_Mo_deliver_29 rfl (fun _ => ?_) (fun gQ => absurd gQ hup)
        refine fm_aload_n hc d_Mo_deliver_33 rfl rfl ?_
        refine fm_getR (k := 38) (q := 621) hc K_Mo d_Mo_deliver_34 q_923 rfl (by decide) (by omega) (by decide) (by decide) (by decide) rfl (rp_receipt hR) ?_
        refine fm_bipush (v := nI 20) hc d_Mo_deliver_37 rfl ?_
        refine fm_zald (j := 20) (len := 21) hc 1 d_Mo_deliver_39 (by decide) (by omega) (by decide) rfl (by omega) (by decide) ?_
        refine fm_top (congrArg Value.int (show M.1 621 20 = nI 0 from g0)) ?_
        refine fm_if_eq (tgt := 88) hc d_Mo_deliver_40 rfl (fun _ => ?_) (fun gQ => absurd (by decide) gQ)
        refine fm_aload_n hc d_Mo_deliver_88 rfl rfl ?_
        refine fm_getR (k := 40) (q := 623) hc K_Mo d_Mo_deliver_89 q_925 rfl (by decide) (by omega) (by decide) (by decide) (by decide) rfl (rp_far hR) ?_
        refine fm_bipush (v := nI 20) hc d_Mo_deliver_92 rfl ?_
        refine fm_iald (j := 20) (len := 21) hc 0 d_Mo_deliver_94 (by decide) (by omega) (by decide) rfl (by omega) (by decide) ?_
        refine fm_top (congrArg Value.int (show M.1 623 20 = mv from g2)) ?_
        refine fm_aload_n hc d_Mo_deliver_95 rfl rfl ?_
        refine fm_getR (k := 14) (q := 599) hc K_Mo d_Mo_deliver_96 q_899 rfl (by decide) (by omega) (by decide) (by decide) (by decide) rfl (rp_known hR) ?_
        refine fm_iload_n hc d_Mo_deliver_99 rfl rfl ?_
        refine fm_iald (j := (24 * j) + ma) (len := 96) hc 0 d_Mo_deliver_100 (by decide) (by omega) (by decide) rfl (by omega) (by decide) ?_
        refine fm_top (congrArg Value.int (show M.1 599 ((24 * j) + ma) = K1 ma from kn)) ?_
        refine fm_icmp_le (tgt := 133) hc d_Mo_deliver_101 rfl (fun _ => ?_) (fun gQ => absurd (Int32.not_lt.mp c1) gQ)
        refine fm_aload_n hc d_Mo_deliver_133 rfl rfl ?_
        refine fm_getR (k := 14) (q := 599) hc K_Mo d_Mo_deliver_134 q_899 rfl (by decide) (by omega) (by decide) (by decide) (by decide) rfl (rp_known hR) ?_
        refine fm_iload_n hc d_Mo_deliver_137 rfl rfl ?_
        refine fm_bipush (v := nI 16) hc d_Mo_deliver_138 rfl ?_
        refine fm_iadd hc d_Mo_deliver_140 ?_
        refine fm_top (congrArg Value.int (nI_add ((24 * j) + ma) 16)) ?_
        refine fm_iald (j := ((24 * j) + ma) + 16) (len := 96) hc 0 d_Mo_deliver_141 (by decide) (by omega) (by decide) rfl (by omega) (by decide) ?_
        refine fm_top (congrArg Value.int (show M.1 599 (((24 * j) + ma) + 16) = K2 ma from kq)) ?_
        refine fm_aload_n hc d_Mo_deliver_142 rfl rfl ?_
        refine fm_getR (k := 40) (q := 623) hc K_Mo d_Mo_deliver_143 q_925 rfl (by decide) (by omega) (by decide) (by decide) (by decide) rfl (rp_far hR) ?_
        refine fm_bipush (v := nI 20) hc d_Mo_deliver_146 rfl ?_
        refine fm_iald (j := 20) (len := 21) hc 0 d_Mo_deliver_148 (by decide) (by omega) (by decide) rfl (by omega) (by decide) ?_
        refine fm_top (congrArg Value.int (show M.1 623 20 = mv from g2)) ?_
        refine fm_icmp_lt (tgt := 175) hc d_Mo_deliver_149 rfl (fun gQ => absurd gQ c2) (fun _ => ?_)
        refine fm_aload_n hc d_Mo_deliver_152 rfl rfl ?_
        refine fm_iconst (v := nI 1) hc d_Mo_deliver_153 rfl ?_
        refine fm_iload_n hc d_Mo_deliver_154 rfl rfl ?_
        refine fm_aload_n hc d_Mo_deliver_155 rfl rfl ?_
        refine fm_getR (k := 40) (q := 623) hc K_Mo d_Mo_deliver_156 q_925 rfl (by decide) (by omega) (by decide) (by decide) (by decide) rfl (rp_far hR) ?_
        refine fm_bipush (v := nI 20) hc d_Mo_deliver_159 rfl ?_
        refine fm_iald (j := 20) (len := 21) hc 0 d_Mo_deliver_161 (by decide) (by omega) (by decide) rfl (by omega) (by decide) ?_
        refine fm_top (congrArg Value.int (show M.1 623 20 = mv from g2)) ?_
        refine fm_iload_n hc d_Mo_deliver_162 rfl rfl ?_
        refine fm_aload_n hc d_Mo_deliver_163 rfl rfl ?_
        refine fm_getR (k := 41) (q := 624) hc K_Mo d_Mo_deliver_164 q_926 rfl (by decide) (by omega) (by decide) (by decide) (by decide) rfl (rp_from hR) ?_
        refine fm_bipush (v := nI 20) hc d_Mo_deliver_167 rfl ?_
        refine fm_iald (j := 20) (len := 21) hc 0 d_Mo_deliver_169 (by decide) (by omega) (by decide) rfl (by omega) (by decide) ?_
        refine fm_top (congrArg Value.int (show M.1 624 20 = mf from g3)) ?_
        refine fm_callV (av := [.int (nI 1), .int (nI ma), .int mv, .int (nI j), .int mf]) (rest := []) (ob := 586) (ci := 11) (r0 := ("AgentNetModel", F_Mo, 51)) (y := y_Mo_post) (bytes := b_Mo_post) hc fm_T0_good (fm_EX_st b x) hex q_1178 q_13 q_1175 q_1177 qs_Mo_post pd_Mo_post (by decide) (by omega) (by decide) (by decide) rfl rfl (rc_postR (a := ma) (v := mv) (f := nI j) (t2 := mf) hn hR hw) ⟨rfl, rfl, Nat.le_of_ble_eq_true rfl, Nat.le_of_ble_eq_true rfl⟩ ⟨Nat.le_of_ble_eq_true rfl, Nat.le_of_ble_eq_true rfl⟩ d_Mo_deliver_170 (Nat.le_of_ble_eq_true rfl) (fun r n2 M2 hp => ?_)
        obtain ⟨rfl, hq1, r1, r2⟩ := hp
        replace hq1 := hq1.symm
        subst hq1
        revert r1 r2
        generalize M2 = Ma
        intro r1 r2
        refine fm_cnt (z' := (0, 0)) rfl (fm_st (st' := [.int (if ms.length < 20 then nI ms.length else -1)]) rfl ?_)
        refine fm_istore (lv' := [(4, .int (if ms.length < 20 then nI ms.length else -1)), (3, .int (nI ((24 * j) + ma))), (2, .int (nI ma)), (1, .int (nI j)), (0, .ref 586)]) hc d_Mo_deliver_173 (by decide) rfl ?_
        exact fm_vret hc hr d_Mo_deliver_175 (Nat.le_refl _) (Nat.le_refl _) ⟨rfl, rfl, by rw [if_neg c1]; exact hrM_eq (fun q i a b => r2.2 _ _ (by omega) (by omega) (by omega) (by omega)) (by rw [r2.1]) h, by rw [if_neg c1, if_neg c2]; exact r1, fkR_V r2⟩
theorem rc_deliver_down {l : Launch} {b : Nat} {x : Nat → Nat} {D : va_G} {dA : Nat → ClassId} {j ma : Nat} {n : Nat} {M : fm_M} (hn : 629 ≤ n) (hR : fm_RP M) (hj : j < 4) (ha8 : ma < 8) (gt : M.1 625 20 = nI j) (g1 : M.1 622 20 = nI ma) (hup : M.1 595 j = nI 0) : Met l y_Mo_deliver (Cond.code y_Mo_deliver b_Mo_deliver 5 none :: fm_T0) ({ frames := 3, cells := 0, slots := 0, locals := 120 }) (fm_Pc fm_lay fm_nf fm_fk fm_cl b x D dA (fm_tys dA) (fm_EX b x) false [.ref 586] n M) (fm_Qc fm_lay fm_nf fm_fk fm_cl b x D dA (fun r n' M' => r = none ∧ n' = n ∧ M' = M)) 0 0 (fm_A b) := by
  refine fm_enter (by decide) (Nat.le_of_ble_eq_true rfl) ?_
  intro p e s m args below meth c9 hc hr hnm hex htg
  refine fm_aload_n hc d_Mo_deliver_0 rfl rfl ?_
  refine fm_getR (k := 42) (q := 625) hc K_Mo d_Mo_deliver_1 q_927 rfl (by decide) (by omega) (by decide) (by decide) (by decide) rfl (rp_to hR) ?_
  refine fm_bipush (v := nI 20) hc d_Mo_deliver_4 rfl ?_
  refine fm_iald (j := 20) (len := 21) hc 0 d_Mo_deliver_6 (by decide) (by omega) (by decide) rfl (by omega) (by decide) ?_
  refine fm_top (congrArg Value.int (show M.1 625 20 = nI j from gt)) ?_
  refine fm_istore_n (lv' := [(1, .int (nI j)), (0, .ref 586)]) hc d_Mo_deliver_7 rfl (by decide) rfl ?_
  refine fm_aload_n hc d_Mo_deliver_8 rfl rfl ?_
  refine fm_getR (k := 39) (q := 622) hc K_Mo d_Mo_deliver_9 q_924 rfl (by decide) (by omega) (by decide) (by decide) (by decide) rfl (rp_who hR) ?_
  refine fm_bipush (v := nI 20) hc d_Mo_deliver_12 rfl ?_
  refine fm_iald (j := 20) (len := 21) hc 0 d_Mo_deliver_14 (by decide) (by omega) (by decide) rfl (by omega) (by decide) ?_
  refine fm_top (congrArg Value.int (show M.1 622 20 = nI ma from g1)) ?_
  refine fm_istore_n (lv' := [(2, .int (nI ma)), (1, .int (nI j)), (0, .ref 586)]) hc d_Mo_deliver_15 rfl (by decide) rfl ?_
  refine fm_bipush (v := nI 24) hc d_Mo_deliver_16 rfl ?_
  refine fm_iload_n hc d_Mo_deliver_18 rfl rfl ?_
  refine fm_imul hc d_Mo_deliver_19 ?_
  refine fm_top (congrArg Value.int (pk_mul 24 j)) ?_
  refine fm_iload_n hc d_Mo_deliver_20 rfl rfl ?_
  refine fm_iadd hc d_Mo_deliver_21 ?_
  refine fm_top (congrArg Value.int (nI_add (24 * j) ma)) ?_
  refine fm_istore_n (lv' := [(3, .int (nI ((24 * j) + ma))), (2, .int (nI ma)), (1, .int (nI j)), (0, .ref 586)]) hc d_Mo_deliver_22 rfl (by decide) rfl ?_
  refine fm_aload_n hc d_Mo_deliver_23 rfl rfl ?_
  refine fm_getR (k := 10) (q := 595) hc K_Mo d_Mo_deliver_24 q_895 rfl (by decide) (by omega) (by decide) (by decide) (by decide) rfl (rp_up hR) ?_
  refine fm_iload_n hc d_Mo_deliver_27 rfl rfl ?_
  refine fm_zald (j := j) (len := 4) hc 1 d_Mo_deliver_28 (by decide) (by omega) (by decide) rfl (by omega) (by decide) ?_
  refine fm_top (congrArg Value.int (show M.1 595 j = nI 0 from hup)) ?_
  refine fm_if_ne (tgt := 33) hc d_Mo_deliver_29 rfl (fun gQ => absurd (by decide) gQ) (fun _ => ?_)
  exact fm_vret hc hr d_Mo_deliver_32 (Nat.le_refl _) (Nat.le_refl _) ⟨rfl, rfl, rfl⟩
theorem r_net_double {l : Launch} {b : Nat} {x : Nat → Nat} {D : va_G} {dA : Nat → ClassId} {k b9 n : Nat} {m0 : mg_T} {ms : List mg_T} {M : fm_M} (hn : 629 ≤ n) (hR : fm_RP M) (hw : hr_W M ms) (hk : ms[k]? = some m0) (hok : ∀ m ∈ ms, m.1 ≤ 1) (hl : ms.length < 20) : Met l y_Mo_net (Cond.code y_Mo_net b_Mo_net 4 (some .int) :: fm_T0) ({ frames := 5, cells := 0, slots := 0, locals := 200 }) (fm_Pc fm_lay fm_nf fm_fk fm_cl b x D dA (fm_tys dA) (fm_EX b x) false [.ref 586, .int (nI k), .int (nI 2)] n M) (fm_Qc fm_lay fm_nf fm_fk fm_cl b x D dA (fun r n' M' => r = some (.int (nI (ms.length + 1))) ∧ n' = n ∧ hr_W M' (ms ++ [m0]) ∧ fk_R b9 (fm_put1 M 586 0 (nI 0)) M')) 0 0 (fm_A b) := by
  refine fm_enter (by decide) (Nat.le_of_ble_eq_true rfl) ?_
  intro p e s m args below meth c9 hc hr hnm hex htg
  have hkl : k < ms.length := (List.getElem?_eq_some_iff.mp hk).1
  have h20 := hw.2.1
  have hwi : fm_wi (nI k) (nI 0) (nI (ms.length - 1)) := ⟨fun q => by have := (nI_ltI (a := k) (b := 0) (by omega) (by decide)).mp q; omega, fun q => by have := (nI_ltI (a := ms.length - 1) (b := k) (by omega) (by omega)).mp q; omega⟩
  have hw0 : hr_W (fm_put1 M 586 0 (nI 0)) ms := hrW_of (fun q i a c => p1_other (by omega)) (p1_at (by decide)) hw
  have hm0 := hok m0 (List.mem_of_getElem? hk)
  refine fm_aload_n hc d_Mo_net_0 rfl rfl ?_
  refine fm_iload_n hc d_Mo_net_1 rfl rfl ?_
  refine fm_iconst (v := nI 0) hc d_Mo_net_2 rfl ?_
  refine fm_iconst (v := nI 2) hc d_Mo_net_3 rfl ?_
  refine fm_callS (av := [.int (nI 2), .int (nI 0), .int (nI 2)]) (rest := [.ref 586]) (y := y_Mo_within) (bytes := b_Mo_within) hc fm_T0_good (fm_EX_st b x) hex q_1049 q_13 q_1047 q_1048 pd_Mo_within (c_Mo_within_ok ⟨by decide, by decide⟩) ⟨rfl, rfl, Nat.le_of_ble_eq_true rfl, Nat.le_of_ble_eq_true rfl⟩ ⟨Nat.le_of_ble_eq_true rfl, Nat.le_of_ble_eq_true rfl⟩ d_Mo_net_4 (Nat.le_of_ble_eq_true rfl) (fun r n2 M2 hp => ?_)
  obtain ⟨rfl, hq1, hq2⟩ := hp
  replace hq1 := hq1.symm
  replace hq2 := hq2.symm
  subst hq1 hq2
  refine fm_cnt (z' := (0, 0)) rfl (fm_st (st' := [.int (nI 1), .ref 586]) rfl ?_)
  refine fm_if_ne (tgt := 14) hc d_Mo_net_7 rfl (fun _ => ?_) (fun gQ => absurd gQ (by decide))
  refine fm_iload_n hc d_Mo_net_14 rfl rfl ?_
  refine fm_iconst (v := nI 0) hc d_Mo_net_15 rfl ?_
  refine fm_aload_n hc d_Mo_net_16 rfl rfl ?_
  refine fm_getI (k := 37) hc K_Mo d_Mo_net_17 q_922 rfl (by decide) (by omega) (by decide) (by decide) (by decide) rfl ?_
  refine fm_top (congrArg Value.int (show M.1 586 37 = nI ms.length from hw.1)) ?_
  refine fm_iconst (v := nI 1) hc d_Mo_net_20 rfl ?_
  refine fm_isub hc d_Mo_net_21 ?_
  refine fm_top (congrArg Value.int (pk_sub (a := ms.length) (b := 1) (by omega))) ?_
  refine fm_callS (av := [.int (nI k), .int (nI 0), .int (nI (ms.length - 1))]) (rest := [.ref 586]) (y := y_Mo_within) (bytes := b_Mo_within) hc fm_T0_good (fm_EX_st b x) hex q_1049 q_13 q_1047 q_1048 pd_Mo_within (c_Mo_within_ok hwi) ⟨rfl, rfl, Nat.le_of_ble_eq_true rfl, Nat.le_of_ble_eq_true rfl⟩ ⟨Nat.le_of_ble_eq_true rfl, Nat.le_of_ble_eq_true rfl⟩ d_Mo_net_22 (Nat.le_of_ble_eq_true rfl) (fun r n2 M2 hp => ?_)
  obtain ⟨rfl, hq1, hq2⟩ := hp
  replace hq1 := hq1.symm
  replace hq2 := hq2.symm
  subst hq1 hq2
  refine fm_cnt (z' := (0, 0)) rfl (fm_st (st' := [.int (nI 1), .ref 586]) rfl ?_)
  refine fm_if_ne (tgt := 32) hc d_Mo_net_25 rfl (fun _ => ?_) (fun gQ => absurd gQ (by decide))
  refine fm_iload_n hc d_Mo_net_32 rfl rfl ?_
  refine fm_iconst (v := nI 2) hc d_Mo_net_33 rfl ?_
  refine fm_icmp_ne (tgt := 50) hc d_Mo_net_34 rfl (fun gQ => absurd (by decide) gQ) (fun _ => ?_)
  refine fm_aload_n hc d_Mo_net_37 rfl rfl ?_
  refine fm_getI (k := 37) hc K_Mo d_Mo_net_38 q_922 rfl (by decide) (by omega) (by decide) (by decide) (by decide) rfl ?_
  refine fm_top (congrArg Value.int (show M.1 586 37 = nI ms.length from hw.1)) ?_
  refine fm_bipush (v := nI 20) hc d_Mo_net_41 rfl ?_
  refine fm_icmp_ne (tgt := 50) hc d_Mo_net_43 rfl (fun _ => ?_) (fun gQ => absurd gQ (fun q => by have := nI_inj (a := ms.length) (c := 20) (by omega) (by decide) q; omega))
  refine fm_iconst (v := nI 0) hc d_Mo_net_50 rfl ?_
  refine fm_putI (k := 0) (v := nI 0) hc K_Mo d_Mo_net_51 q_885 rfl (by decide) (by omega) (by decide) (by decide) (by decide) rfl rfl rfl rfl ?_
  refine fm_mem (M' := fm_put1 M 586 0 (nI 0)) rfl rfl ?_
  refine fm_aload_n hc d_Mo_net_54 rfl rfl ?_
  refine fm_getI (k := 0) hc K_Mo d_Mo_net_55 q_885 rfl (by decide) (by omega) (by decide) (by decide) (by decide) rfl ?_
  refine fm_top (congrArg Value.int (show (fm_put1 M 586 0 (nI 0)).1 586 0 = nI 0 from (p1_same _ _ _ _))) ?_
  refine fm_if_le (tgt := 63) hc d_Mo_net_58 rfl (fun _ => ?_) (fun gQ => absurd (by decide) gQ)
  refine fm_iload_n hc d_Mo_net_63 rfl rfl ?_
  refine fm_iconst (v := nI 2) hc d_Mo_net_64 rfl ?_
  refine fm_icmp_ne (tgt := 92) hc d_Mo_net_65 rfl (fun gQ => absurd (by decide) gQ) (fun _ => ?_)
  refine fm_aload_n hc d_Mo_net_68 rfl rfl ?_
  refine fm_iload_n hc d_Mo_net_69 rfl rfl ?_
  refine fm_aload_n hc d_Mo_net_70 rfl rfl ?_
  refine fm_getI (k := 37) hc K_Mo d_Mo_net_71 q_922 rfl (by decide) (by omega) (by decide) (by decide) (by decide) rfl ?_
  refine fm_top (congrArg Value.int (show (fm_put1 M 586 0 (nI 0)).1 586 37 = nI ms.length from ((p1_at (by decide)).trans hw.1))) ?_
  refine fm_callV (av := [.int (nI k), .int (nI ms.length)]) (rest := []) (ob := 586) (ci := 11) (r0 := ("AgentNetModel", F_Mo, 51)) (y := y_Mo_copyMessage) (bytes := b_Mo_copyMessage) hc fm_T0_good (fm_EX_st b x) hex q_1222 q_13 q_1219 q_1221 qs_Mo_copyMessage pd_Mo_copyMessage (by decide) (by omega) (by decide) (by decide) rfl rfl (rc_copyMsg (u := k) (v := ms.length) (M := fm_put1 M 586 0 (nI 0)) hn (fun q hq => hR q hq) (by omega) (by omega) (by omega) (hw0.2.2 k m0 hk) hm0) ⟨rfl, rfl, Nat.le_of_ble_eq_true rfl, Nat.le_of_ble_eq_true rfl⟩ ⟨Nat.le_of_ble_eq_true rfl, Nat.le_of_ble_eq_true rfl⟩ d_Mo_net_74 (Nat.le_of_ble_eq_true rfl) (fun r n2 M2 hp => ?_)
  obtain ⟨rfl, hq1, r1, r2⟩ := hp
  replace hq1 := hq1.symm
  subst hq1
  revert r1 r2
  generalize M2 = Ma
  intro r1 r2
  have ua : Ma.1 586 37 = nI ms.length := (r2.2 _ _ (by omega) (by omega)).trans hw0.1
  have hRa : fm_RP Ma := flM_RP r2 (fun q hq => hR q hq)
  refine fm_cnt (z' := (0, 0)) rfl (fm_st (st' := []) rfl ?_)
  refine fm_aload_n hc d_Mo_net_77 rfl rfl ?_
  refine fm_dup hc d_Mo_net_78 rfl ?_
  refine fm_getI (k := 37) hc K_Mo d_Mo_net_79 q_922 rfl (by decide) (by omega) (by decide) (by decide) (by decide) rfl ?_
  refine fm_top (congrArg Value.int (show Ma.1 586 37 = nI ms.length from ua)) ?_
  refine fm_iconst (v := nI 1) hc d_Mo_net_82 rfl ?_
  refine fm_iadd hc d_Mo_net_83 ?_
  refine fm_top (congrArg Value.int (nI_add ms.length 1)) ?_
  refine fm_putI (k := 37) (v := nI (ms.length + 1)) hc K_Mo d_Mo_net_84 q_922 rfl (by decide) (by omega) (by decide) (by decide) (by decide) rfl rfl rfl rfl ?_
  refine fm_aload_n hc d_Mo_net_87 rfl rfl ?_
  refine fm_getI (k := 37) hc K_Mo d_Mo_net_88 q_922 rfl (by decide) (by omega) (by decide) (by decide) (by decide) rfl ?_
  refine fm_top (congrArg Value.int (show (fm_put1 Ma 586 37 (nI (ms.length + 1))).1 586 37 = nI (ms.length + 1) from (p1_same _ _ _ _))) ?_
  refine fm_iret hc hr d_Mo_net_91 (Nat.le_refl _) (Nat.le_refl _) ⟨rfl, rfl, ⟨by rw [List.length_append]; exact p1_same _ _ _ _, by rw [List.length_append]; exact hl, fun c m hc => ?_⟩, (fkR_tr (fkR_V (fvM_l r2)) (fkR_V ⟨rfl, fun q j a b _ _ => ?_⟩))⟩
  · refine hrWk_of (fun q a b => p1_other (by omega)) (fun i hi => p1_other (by decide)) ?_
    rcases ap_at hc with ⟨h1, h2⟩ | ⟨h1, h2⟩
    · exact hrWk_l h1 r2 (hw0.2.2 c m h2)
    · rw [h1, h2]; exact r1
  · by_cases e : q = 586
    · subst e; exact p1_at (by omega)
    · exact p1_other e
theorem r_net_lose {l : Launch} {b : Nat} {x : Nat → Nat} {D : va_G} {dA : Nat → ClassId} {k b9 n : Nat} {m0 : mg_T} {ms : List mg_T} {M : fm_M} (hn : 629 ≤ n) (hR : fm_RP M) (hw : hr_W M ms) (hk : ms[k]? = some m0) (hok : ∀ m ∈ ms, m.1 ≤ 1) : Met l y_Mo_net (Cond.code y_Mo_net b_Mo_net 4 (some .int) :: fm_T0) ({ frames := 5, cells := 0, slots := 0, locals := 200 }) (fm_Pc fm_lay fm_nf fm_fk fm_cl b x D dA (fm_tys dA) (fm_EX b x) false [.ref 586, .int (nI k), .int (nI 1)] n M) (fm_Qc fm_lay fm_nf fm_fk fm_cl b x D dA (fun r n' M' => r = some (.int (nI (ms.length - 1))) ∧ n' = n ∧ hr_W M' (ms.eraseIdx k) ∧ fk_R b9 (fm_put1 M 586 0 (nI 0)) M')) 0 0 (fm_A b) := by
  refine fm_enter (by decide) (Nat.le_of_ble_eq_true rfl) ?_
  intro p e s m args below meth c9 hc hr hnm hex htg
  have hkl : k < ms.length := (List.getElem?_eq_some_iff.mp hk).1
  have h20 := hw.2.1
  have hwi : fm_wi (nI k) (nI 0) (nI (ms.length - 1)) := ⟨fun q => by have := (nI_ltI (a := k) (b := 0) (by omega) (by decide)).mp q; omega, fun q => by have := (nI_ltI (a := ms.length - 1) (b := k) (by omega) (by omega)).mp q; omega⟩
  have hw0 : hr_W (fm_put1 M 586 0 (nI 0)) ms := hrW_of (fun q i a c => p1_other (by omega)) (p1_at (by decide)) hw
  have hm0 := hok m0 (List.mem_of_getElem? hk)
  refine fm_aload_n hc d_Mo_net_0 rfl rfl ?_
  refine fm_iload_n hc d_Mo_net_1 rfl rfl ?_
  refine fm_iconst (v := nI 0) hc d_Mo_net_2 rfl ?_
  refine fm_iconst (v := nI 2) hc d_Mo_net_3 rfl ?_
  refine fm_callS (av := [.int (nI 1), .int (nI 0), .int (nI 2)]) (rest := [.ref 586]) (y := y_Mo_within) (bytes := b_Mo_within) hc fm_T0_good (fm_EX_st b x) hex q_1049 q_13 q_1047 q_1048 pd_Mo_within (c_Mo_within_ok ⟨by decide, by decide⟩) ⟨rfl, rfl, Nat.le_of_ble_eq_true rfl, Nat.le_of_ble_eq_true rfl⟩ ⟨Nat.le_of_ble_eq_true rfl, Nat.le_of_ble_eq_true rfl⟩ d_Mo_net_4 (Nat.le_of_ble_eq_true rfl) (fun r n2 M2 hp => ?_)
  obtain ⟨rfl, hq1, hq2⟩ := hp
  replace hq1 := hq1.symm
  replace hq2 := hq2.symm
  subst hq1 hq2
  refine fm_cnt (z' := (0, 0)) rfl (fm_st (st' := [.int (nI 1), .ref 586]) rfl ?_)
  refine fm_if_ne (tgt := 14) hc d_Mo_net_7 rfl (fun _ => ?_) (fun gQ => absurd gQ (by decide))
  refine fm_iload_n hc d_Mo_net_14 rfl rfl ?_
  refine fm_iconst (v := nI 0) hc d_Mo_net_15 rfl ?_
  refine fm_aload_n hc d_Mo_net_16 rfl rfl ?_
  refine fm_getI (k := 37) hc K_Mo d_Mo_net_17 q_922 rfl (by decide) (by omega) (by decide) (by decide) (by decide) rfl ?_
  refine fm_top (congrArg Value.int (show M.1 586 37 = nI ms.length from hw.1)) ?_
  refine fm_iconst (v := nI 1) hc d_Mo_net_20 rfl ?_
  refine fm_isub hc d_Mo_net_21 ?_
  refine fm_top (congrArg Value.int (pk_sub (a := ms.length) (b := 1) (by omega))) ?_
  refine fm_callS (av := [.int (nI k), .int (nI 0), .int (nI (ms.length - 1))]) (rest := [.ref 586]) (y := y_Mo_within) (bytes := b_Mo_within) hc fm_T0_good (fm_EX_st b x) hex q_1049 q_13 q_1047 q_1048 pd_Mo_within (c_Mo_within_ok hwi) ⟨rfl, rfl, Nat.le_of_ble_eq_true rfl, Nat.le_of_ble_eq_true rfl⟩ ⟨Nat.le_of_ble_eq_true rfl, Nat.le_of_ble_eq_true rfl⟩ d_Mo_net_22 (Nat.le_of_ble_eq_true rfl) (fun r n2 M2 hp => ?_)
  obtain ⟨rfl, hq1, hq2⟩ := hp
  replace hq1 := hq1.symm
  replace hq2 := hq2.symm
  subst hq1 hq2
  refine fm_cnt (z' := (0, 0)) rfl (fm_st (st' := [.int (nI 1), .ref 586]) rfl ?_)
  refine fm_if_ne (tgt := 32) hc d_Mo_net_25 rfl (fun _ => ?_) (fun gQ => absurd gQ (by decide))
  refine fm_iload_n hc d_Mo_net_32 rfl rfl ?_
  refine fm_iconst (v := nI 2) hc d_Mo_net_33 rfl ?_
  refine fm_icmp_ne (tgt := 50) hc d_Mo_net_34 rfl (fun _ => ?_) (fun gQ => absurd gQ (by decide))
  refine fm_iconst (v := nI 0) hc d_Mo_net_50 rfl ?_
  refine fm_putI (k := 0) (v := nI 0) hc K_Mo d_Mo_net_51 q_885 rfl (by decide) (by omega) (by decide) (by decide) (by decide) rfl rfl rfl rfl ?_
  refine fm_mem (M' := fm_put1 M 586 0 (nI 0)) rfl rfl ?_
  refine fm_aload_n hc d_Mo_net_54 rfl rfl ?_
  refine fm_getI (k := 0) hc K_Mo d_Mo_net_55 q_885 rfl (by decide) (by omega) (by decide) (by decide) (by decide) rfl ?_
  refine fm_top (congrArg Value.int (show (fm_put1 M 586 0 (nI 0)).1 586 0 = nI 0 from (p1_same _ _ _ _))) ?_
  refine fm_if_le (tgt := 63) hc d_Mo_net_58 rfl (fun _ => ?_) (fun gQ => absurd (by decide) gQ)
  refine fm_iload_n hc d_Mo_net_63 rfl rfl ?_
  refine fm_iconst (v := nI 2) hc d_Mo_net_64 rfl ?_
  refine fm_icmp_ne (tgt := 92) hc d_Mo_net_65 rfl (fun _ => ?_) (fun gQ => absurd gQ (by decide))
  refine fm_aload_n hc d_Mo_net_92 rfl rfl ?_
  refine fm_iload_n hc d_Mo_net_93 rfl rfl ?_
  refine fm_bipush (v := nI 20) hc d_Mo_net_94 rfl ?_
  refine fm_callV (av := [.int (nI k), .int (nI 20)]) (rest := []) (ob := 586) (ci := 11) (r0 := ("AgentNetModel", F_Mo, 51)) (y := y_Mo_copyMessage) (bytes := b_Mo_copyMessage) hc fm_T0_good (fm_EX_st b x) hex q_1222 q_13 q_1219 q_1221 qs_Mo_copyMessage pd_Mo_copyMessage (by decide) (by omega) (by decide) (by decide) rfl rfl (rc_copyMsg (u := k) (v := 20) (M := fm_put1 M 586 0 (nI 0)) hn (fun q hq => hR q hq) (by omega) (by omega) (by omega) (hw0.2.2 k m0 hk) hm0) ⟨rfl, rfl, Nat.le_of_ble_eq_true rfl, Nat.le_of_ble_eq_true rfl⟩ ⟨Nat.le_of_ble_eq_true rfl, Nat.le_of_ble_eq_true rfl⟩ d_Mo_net_96 (Nat.le_of_ble_eq_true rfl) (fun r n2 M2 hp => ?_)
  obtain ⟨rfl, hq1, r1, r2⟩ := hp
  replace hq1 := hq1.symm
  subst hq1
  revert r1 r2
  generalize M2 = Ma
  intro r1 r2
  have hRa : fm_RP Ma := flM_RP r2 (fun q hq => hR q hq)
  refine fm_cnt (z' := (0, 0)) rfl (fm_st (st' := []) rfl ?_)
  refine fm_iload_n hc d_Mo_net_99 rfl rfl ?_
  refine fm_iconst (v := nI 1) hc d_Mo_net_100 rfl ?_
  refine fm_iadd hc d_Mo_net_101 ?_
  refine fm_top (congrArg Value.int (nI_add k 1)) ?_
  refine fm_istore_n (lv' := [(3, .int (nI (k + 1))), (0, .ref 586), (1, .int (nI k)), (2, .int (nI 1))]) hc d_Mo_net_102 rfl (by decide) rfl ?_
  refine fm_dropl (lv' := [(3, .int (nI (k + 1 + 0))), (0, .ref 586), (1, .int (nI k)), (2, .int (nI 1))]) (by simp) ?_
  have hlen : (ms.eraseIdx k).length = ms.length - 1 := by rw [List.length_eraseIdx, if_pos hkl]
  have st0 : ∀ c m, ms[c]? = some m → hr_Wk Ma c m := fun c m hc => by
    have hc' : c < ms.length := (List.getElem?_eq_some_iff.mp hc).1
    exact hrWk_l (by omega) r2 (hw0.2.2 c m hc)
  refine fm_loopI (N := ms.length - 1 - k) (lv := fun i => [(3, .int (nI (k + 1 + i))), (0, .ref 586), (1, .int (nI k)), (2, .int (nI 1))]) (I := fun i M' => (∀ c m, c < k + i → (ms.eraseIdx k)[c]? = some m → hr_Wk M' c m) ∧ (∀ c m, k + i ≤ c → ms[c]? = some m → hr_Wk M' c m) ∧ hr_Wk M' 20 m0 ∧ M'.1 586 37 = nI ms.length ∧ fv_M (fm_put1 M 586 0 (nI 0)) M') (fun i Mi hi hI ih => ?_) (fun Mi hI => ?_) ⟨fun c m hc he => st0 c m (by rw [List.getElem?_eraseIdx, if_pos (by omega)] at he; exact he), fun c m _ hc => st0 c m hc, r1, (r2.2 _ _ (by omega) (by omega)).trans hw0.1, fvM_l r2⟩
  · obtain ⟨i1, i2, i3, i4, i5⟩ := hI
    have hRi : fm_RP Mi := fvM_RP i5 (fun q hq => hR q hq)
    obtain ⟨mx, hmx⟩ : ∃ m, ms[k + 1 + i]? = some m := ⟨_, List.getElem?_eq_getElem (by omega)⟩
    refine fm_iload_n hc d_Mo_net_103 rfl rfl ?_
    refine fm_aload_n hc d_Mo_net_104 rfl rfl ?_
    refine fm_getI (k := 37) hc K_Mo d_Mo_net_105 q_922 rfl (by decide) (by omega) (by decide) (by decide) (by decide) rfl ?_
    refine fm_top (congrArg Value.int (show Mi.1 586 37 = nI ms.length from i4)) ?_
    refine fm_icmp_ge (tgt := 125) hc d_Mo_net_108 rfl (fun gQ => absurd gQ (hnle (a := ms.length) (c := k + 1 + i) (by omega) (by omega))) (fun _ => ?_)
    refine fm_aload_n hc d_Mo_net_111 rfl rfl ?_
    refine fm_iload_n hc d_Mo_net_112 rfl rfl ?_
    refine fm_iload_n hc d_Mo_net_113 rfl rfl ?_
    refine fm_iconst (v := nI 1) hc d_Mo_net_114 rfl ?_
    refine fm_isub hc d_Mo_net_115 ?_
    refine fm_top (congrArg Value.int (pk_sub (a := k + 1 + i) (b := 1) (by omega))) ?_
    refine fm_top (congrArg Value.int (show nI ((k + 1 + i) - 1) = nI (k + i) from (congrArg nI (by omega)))) ?_
    refine fm_callV (av := [.int (nI (k + 1 + i)), .int (nI (k + i))]) (rest := []) (ob := 586) (ci := 11) (r0 := ("AgentNetModel", F_Mo, 51)) (y := y_Mo_copyMessage) (bytes := b_Mo_copyMessage) hc fm_T0_good (fm_EX_st b x) hex q_1222 q_13 q_1219 q_1221 qs_Mo_copyMessage pd_Mo_copyMessage (by decide) (by omega) (by decide) (by decide) rfl rfl (rc_copyMsg (u := k + 1 + i) (v := k + i) (M := Mi) hn hRi (by omega) (by omega) (by omega) (i2 _ mx (by omega) hmx) (hok mx (List.mem_of_getElem? hmx))) ⟨rfl, rfl, Nat.le_of_ble_eq_true rfl, Nat.le_of_ble_eq_true rfl⟩ ⟨Nat.le_of_ble_eq_true rfl, Nat.le_of_ble_eq_true rfl⟩ d_Mo_net_116 (Nat.le_of_ble_eq_true rfl) (fun r n2 M2 hp => ?_)
    obtain ⟨rfl, hq1, t1, t2⟩ := hp
    replace hq1 := hq1.symm
    subst hq1
    revert t1 t2
    generalize M2 = Mb
    intro t1 t2
    refine fm_cnt (z' := (0, 0)) rfl (fm_st (st' := []) rfl ?_)
    refine fm_iinc (v := nI (k + 1 + i + 1)) (lv' := [(3, .int (nI (k + 1 + i + 1))), (0, .ref 586), (1, .int (nI k)), (2, .int (nI 1))]) hc d_Mo_net_119 rfl (nI_1 (k + 1 + i)) (by decide) rfl ?_
    refine fm_goto (tgt := 103) hc d_Mo_net_122 rfl ?_
    refine fm_dropl (lv' := [(3, .int (nI (k + 1 + (i + 1)))), (0, .ref 586), (1, .int (nI k)), (2, .int (nI 1))]) (by simp [Nat.add_assoc]) ?_
    refine ih _ ⟨fun c m hc he => ?_, fun c m hc he => hrWk_l (by omega) t2 (i2 c m (by omega) he), hrWk_l (by omega) t2 i3, (t2.2 _ _ (by omega) (by omega)).trans i4, fvM_tr i5 (fvM_l t2)⟩
    by_cases e : c = k + i
    · subst e
      rw [List.getElem?_eraseIdx, if_neg (by omega), show k + i + 1 = k + 1 + i by omega, hmx] at he
      rw [← Option.some.inj he]
      exact t1
    · exact hrWk_l e t2 (i1 c m (by omega) he)
  · obtain ⟨i1, i2, i3, i4, i5⟩ := hI
    have hRi : fm_RP Mi := fvM_RP i5 (fun q hq => hR q hq)
    have wu : hr_W (fm_put1 Mi 586 37 (nI (ms.length - 1))) (ms.eraseIdx k) := by
      refine ⟨by rw [hlen]; exact p1_same _ _ _ _, by omega, fun c m hc => ?_⟩
      have hc' : c < ms.length - 1 := by rw [← hlen]; exact (List.getElem?_eq_some_iff.mp hc).1
      exact hrWk_of (fun q a b => p1_other (by omega)) (fun i hi => p1_other (by decide)) (i1 c m (by omega) hc)
    have vu : fv_M (fm_put1 M 586 0 (nI 0)) (fm_put1 Mi 586 37 (nI (ms.length - 1))) := fvM_tr i5 ⟨rfl, fun q c a b _ _ => by
      by_cases e : q = 586
      · subst e; exact p1_at (by omega)
      · exact p1_other e⟩
    have k20 : hr_Wk (fm_put1 Mi 586 37 (nI (ms.length - 1))) 20 m0 := hrWk_of (fun q a b => p1_other (by omega)) (fun i hi => p1_other (by decide)) i3
    have hRu : fm_RP (fm_put1 Mi 586 37 (nI (ms.length - 1))) := fun q hq => hRi q hq
    refine fm_iload_n hc d_Mo_net_103 rfl rfl ?_
    refine fm_aload_n hc d_Mo_net_104 rfl rfl ?_
    refine fm_getI (k := 37) hc K_Mo d_Mo_net_105 q_922 rfl (by decide) (by omega) (by decide) (by decide) (by decide) rfl ?_
    refine fm_top (congrArg Value.int (show Mi.1 586 37 = nI ms.length from i4)) ?_
    refine fm_icmp_ge (tgt := 125) hc d_Mo_net_108 rfl (fun _ => ?_) (fun gQ => absurd (nI_le (by omega) (by omega)) gQ)
    refine fm_aload_n hc d_Mo_net_125 rfl rfl ?_
    refine fm_dup hc d_Mo_net_126 rfl ?_
    refine fm_getI (k := 37) hc K_Mo d_Mo_net_127 q_922 rfl (by decide) (by omega) (by decide) (by decide) (by decide) rfl ?_
    refine fm_top (congrArg Value.int (show Mi.1 586 37 = nI ms.length from i4)) ?_
    refine fm_iconst (v := nI 1) hc d_Mo_net_130 rfl ?_
    refine fm_isub hc d_Mo_net_131 ?_
    refine fm_top (congrArg Value.int (pk_sub (a := ms.length) (b := 1) (by omega))) ?_
    refine fm_putI (k := 37) (v := nI (ms.length - 1)) hc K_Mo d_Mo_net_132 q_922 rfl (by decide) (by omega) (by decide) (by decide) (by decide) rfl rfl rfl rfl ?_
    refine fm_iload_n hc d_Mo_net_135 rfl rfl ?_
    refine fm_if_ne (tgt := 143) hc d_Mo_net_136 rfl (fun _ => ?_) (fun gQ => absurd gQ (by decide))
    refine fm_aload_n hc d_Mo_net_143 rfl rfl ?_
    refine fm_getI (k := 37) hc K_Mo d_Mo_net_144 q_922 rfl (by decide) (by omega) (by decide) (by decide) (by decide) rfl ?_
    refine fm_top (congrArg Value.int (show (fm_put1 Mi 586 37 (nI (ms.length - 1))).1 586 37 = nI (ms.length - 1) from (p1_same _ _ _ _))) ?_
    exact fm_iret hc hr d_Mo_net_147 (Nat.le_refl _) (Nat.le_refl _) ⟨rfl, rfl, wu, (fkR_V vu)⟩
theorem r_net_down {l : Launch} {b : Nat} {x : Nat → Nat} {D : va_G} {dA : Nat → ClassId} {j k b9 n : Nat} {m0 : mg_T} {ms : List mg_T} {M : fm_M} (hn : 629 ≤ n) (hR : fm_RP M) (hw : hr_W M ms) (hk : ms[k]? = some m0) (hok : ∀ m ∈ ms, m.1 ≤ 1) (hj : j < 4) (hto : m0.2.2.2.2.1 = nI j) (ha8 : m0.2.1 < 8) (hup : M.1 595 j = nI 0) : Met l y_Mo_net (Cond.code y_Mo_net b_Mo_net 4 (some .int) :: fm_T0) ({ frames := 5, cells := 0, slots := 0, locals := 200 }) (fm_Pc fm_lay fm_nf fm_fk fm_cl b x D dA (fm_tys dA) (fm_EX b x) false [.ref 586, .int (nI k), .int (nI 0)] n M) (fm_Qc fm_lay fm_nf fm_fk fm_cl b x D dA (fun r n' M' => r = some (.int (nI (ms.length - 1))) ∧ n' = n ∧ hr_W M' (ms.eraseIdx k) ∧ fk_R b9 (fm_put1 M 586 0 (nI 0)) M')) 0 0 (fm_A b) := by
  refine fm_enter (by decide) (Nat.le_of_ble_eq_true rfl) ?_
  intro p e s m args below meth c9 hc hr hnm hex htg
  have hkl : k < ms.length := (List.getElem?_eq_some_iff.mp hk).1
  have h20 := hw.2.1
  have hwi : fm_wi (nI k) (nI 0) (nI (ms.length - 1)) := ⟨fun q => by have := (nI_ltI (a := k) (b := 0) (by omega) (by decide)).mp q; omega, fun q => by have := (nI_ltI (a := ms.length - 1) (b := k) (by omega) (by omega)).mp q; omega⟩
  have hw0 : hr_W (fm_put1 M 586 0 (nI 0)) ms := hrW_of (fun q i a c => p1_other (by omega)) (p1_at (by decide)) hw
  have hm0 := hok m0 (List.mem_of_getElem? hk)
  refine fm_aload_n hc d_Mo_net_0 rfl rfl ?_
  refine fm_iload_n hc d_Mo_net_1 rfl rfl ?_
  refine fm_iconst (v := nI 0) hc d_Mo_net_2 rfl ?_
  refine fm_iconst (v := nI 2) hc d_Mo_net_3 rfl ?_
  refine fm_callS (av := [.int (nI 0), .int (nI 0), .int (nI 2)]) (rest := [.ref 586]) (y := y_Mo_within) (bytes := b_Mo_within) hc fm_T0_good (fm_EX_st b x) hex q_1049 q_13 q_1047 q_1048 pd_Mo_within (c_Mo_within_ok ⟨by decide, by decide⟩) ⟨rfl, rfl, Nat.le_of_ble_eq_true rfl, Nat.le_of_ble_eq_true rfl⟩ ⟨Nat.le_of_ble_eq_true rfl, Nat.le_of_ble_eq_true rfl⟩ d_Mo_net_4 (Nat.le_of_ble_eq_true rfl) (fun r n2 M2 hp => ?_)
  obtain ⟨rfl, hq1, hq2⟩ := hp
  replace hq1 := hq1.symm
  replace hq2 := hq2.symm
  subst hq1 hq2
  refine fm_cnt (z' := (0, 0)) rfl (fm_st (st' := [.int (nI 1), .ref 586]) rfl ?_)
  refine fm_if_ne (tgt := 14) hc d_Mo_net_7 rfl (fun _ => ?_) (fun gQ => absurd gQ (by decide))
  refine fm_iload_n hc d_Mo_net_14 rfl rfl ?_
  refine fm_iconst (v := nI 0) hc d_Mo_net_15 rfl ?_
  refine fm_aload_n hc d_Mo_net_16 rfl rfl ?_
  refine fm_getI (k := 37) hc K_Mo d_Mo_net_17 q_922 rfl (by decide) (by omega) (by decide) (by decide) (by decide) rfl ?_
  refine fm_top (congrArg Value.int (show M.1 586 37 = nI ms.length from hw.1)) ?_
  refine fm_iconst (v := nI 1) hc d_Mo_net_20 rfl ?_
  refine fm_isub hc d_Mo_net_21 ?_
  refine fm_top (congrArg Value.int (pk_sub (a := ms.length) (b := 1) (by omega))) ?_
  refine fm_callS (av := [.int (nI k), .int (nI 0), .int (nI (ms.length - 1))]) (rest := [.ref 586]) (y := y_Mo_within) (bytes := b_Mo_within) hc fm_T0_good (fm_EX_st b x) hex q_1049 q_13 q_1047 q_1048 pd_Mo_within (c_Mo_within_ok hwi) ⟨rfl, rfl, Nat.le_of_ble_eq_true rfl, Nat.le_of_ble_eq_true rfl⟩ ⟨Nat.le_of_ble_eq_true rfl, Nat.le_of_ble_eq_true rfl⟩ d_Mo_net_22 (Nat.le_of_ble_eq_true rfl) (fun r n2 M2 hp => ?_)
  obtain ⟨rfl, hq1, hq2⟩ := hp
  replace hq1 := hq1.symm
  replace hq2 := hq2.symm
  subst hq1 hq2
  refine fm_cnt (z' := (0, 0)) rfl (fm_st (st' := [.int (nI 1), .ref 586]) rfl ?_)
  refine fm_if_ne (tgt := 32) hc d_Mo_net_25 rfl (fun _ => ?_) (fun gQ => absurd gQ (by decide))
  refine fm_iload_n hc d_Mo_net_32 rfl rfl ?_
  refine fm_iconst (v := nI 2) hc d_Mo_net_33 rfl ?_
  refine fm_icmp_ne (tgt := 50) hc d_Mo_net_34 rfl (fun _ => ?_) (fun gQ => absurd gQ (by decide))
  refine fm_iconst (v := nI 0) hc d_Mo_net_50 rfl ?_
  refine fm_putI (k := 0) (v := nI 0) hc K_Mo d_Mo_net_51 q_885 rfl (by decide) (by omega) (by decide) (by decide) (by decide) rfl rfl rfl rfl ?_
  refine fm_mem (M' := fm_put1 M 586 0 (nI 0)) rfl rfl ?_
  refine fm_aload_n hc d_Mo_net_54 rfl rfl ?_
  refine fm_getI (k := 0) hc K_Mo d_Mo_net_55 q_885 rfl (by decide) (by omega) (by decide) (by decide) (by decide) rfl ?_
  refine fm_top (congrArg Value.int (show (fm_put1 M 586 0 (nI 0)).1 586 0 = nI 0 from (p1_same _ _ _ _))) ?_
  refine fm_if_le (tgt := 63) hc d_Mo_net_58 rfl (fun _ => ?_) (fun gQ => absurd (by decide) gQ)
  refine fm_iload_n hc d_Mo_net_63 rfl rfl ?_
  refine fm_iconst (v := nI 2) hc d_Mo_net_64 rfl ?_
  refine fm_icmp_ne (tgt := 92) hc d_Mo_net_65 rfl (fun _ => ?_) (fun gQ => absurd gQ (by decide))
  refine fm_aload_n hc d_Mo_net_92 rfl rfl ?_
  refine fm_iload_n hc d_Mo_net_93 rfl rfl ?_
  refine fm_bipush (v := nI 20) hc d_Mo_net_94 rfl ?_
  refine fm_callV (av := [.int (nI k), .int (nI 20)]) (rest := []) (ob := 586) (ci := 11) (r0 := ("AgentNetModel", F_Mo, 51)) (y := y_Mo_copyMessage) (bytes := b_Mo_copyMessage) hc fm_T0_good (fm_EX_st b x) hex q_1222 q_13 q_1219 q_1221 qs_Mo_copyMessage pd_Mo_copyMessage (by decide) (by omega) (by decide) (by decide) rfl rfl (rc_copyMsg (u := k) (v := 20) (M := fm_put1 M 586 0 (nI 0)) hn (fun q hq => hR q hq) (by omega) (by omega) (by omega) (hw0.2.2 k m0 hk) hm0) ⟨rfl, rfl, Nat.le_of_ble_eq_true rfl, Nat.le_of_ble_eq_true rfl⟩ ⟨Nat.le_of_ble_eq_true rfl, Nat.le_of_ble_eq_true rfl⟩ d_Mo_net_96 (Nat.le_of_ble_eq_true rfl) (fun r n2 M2 hp => ?_)
  obtain ⟨rfl, hq1, r1, r2⟩ := hp
  replace hq1 := hq1.symm
  subst hq1
  revert r1 r2
  generalize M2 = Ma
  intro r1 r2
  have hRa : fm_RP Ma := flM_RP r2 (fun q hq => hR q hq)
  refine fm_cnt (z' := (0, 0)) rfl (fm_st (st' := []) rfl ?_)
  refine fm_iload_n hc d_Mo_net_99 rfl rfl ?_
  refine fm_iconst (v := nI 1) hc d_Mo_net_100 rfl ?_
  refine fm_iadd hc d_Mo_net_101 ?_
  refine fm_top (congrArg Value.int (nI_add k 1)) ?_
  refine fm_istore_n (lv' := [(3, .int (nI (k + 1))), (0, .ref 586), (1, .int (nI k)), (2, .int (nI 0))]) hc d_Mo_net_102 rfl (by decide) rfl ?_
  refine fm_dropl (lv' := [(3, .int (nI (k + 1 + 0))), (0, .ref 586), (1, .int (nI k)), (2, .int (nI 0))]) (by simp) ?_
  have hlen : (ms.eraseIdx k).length = ms.length - 1 := by rw [List.length_eraseIdx, if_pos hkl]
  have st0 : ∀ c m, ms[c]? = some m → hr_Wk Ma c m := fun c m hc => by
    have hc' : c < ms.length := (List.getElem?_eq_some_iff.mp hc).1
    exact hrWk_l (by omega) r2 (hw0.2.2 c m hc)
  refine fm_loopI (N := ms.length - 1 - k) (lv := fun i => [(3, .int (nI (k + 1 + i))), (0, .ref 586), (1, .int (nI k)), (2, .int (nI 0))]) (I := fun i M' => (∀ c m, c < k + i → (ms.eraseIdx k)[c]? = some m → hr_Wk M' c m) ∧ (∀ c m, k + i ≤ c → ms[c]? = some m → hr_Wk M' c m) ∧ hr_Wk M' 20 m0 ∧ M'.1 586 37 = nI ms.length ∧ fv_M (fm_put1 M 586 0 (nI 0)) M') (fun i Mi hi hI ih => ?_) (fun Mi hI => ?_) ⟨fun c m hc he => st0 c m (by rw [List.getElem?_eraseIdx, if_pos (by omega)] at he; exact he), fun c m _ hc => st0 c m hc, r1, (r2.2 _ _ (by omega) (by omega)).trans hw0.1, fvM_l r2⟩
  · obtain ⟨i1, i2, i3, i4, i5⟩ := hI
    have hRi : fm_RP Mi := fvM_RP i5 (fun q hq => hR q hq)
    obtain ⟨mx, hmx⟩ : ∃ m, ms[k + 1 + i]? = some m := ⟨_, List.getElem?_eq_getElem (by omega)⟩
    refine fm_iload_n hc d_Mo_net_103 rfl rfl ?_
    refine fm_aload_n hc d_Mo_net_104 rfl rfl ?_
    refine fm_getI (k := 37) hc K_Mo d_Mo_net_105 q_922 rfl (by decide) (by omega) (by decide) (by decide) (by decide) rfl ?_
    refine fm_top (congrArg Value.int (show Mi.1 586 37 = nI ms.length from i4)) ?_
    refine fm_icmp_ge (tgt := 125) hc d_Mo_net_108 rfl (fun gQ => absurd gQ (hnle (a := ms.length) (c := k + 1 + i) (by omega) (by omega))) (fun _ => ?_)
    refine fm_aload_n hc d_Mo_net_111 rfl rfl ?_
    refine fm_iload_n hc d_Mo_net_112 rfl rfl ?_
    refine fm_iload_n hc d_Mo_net_113 rfl rfl ?_
    refine fm_iconst (v := nI 1) hc d_Mo_net_114 rfl ?_
    refine fm_isub hc d_Mo_net_115 ?_
    refine fm_top (congrArg Value.int (pk_sub (a := k + 1 + i) (b := 1) (by omega))) ?_
    refine fm_top (congrArg Value.int (show nI ((k + 1 + i) - 1) = nI (k + i) from (congrArg nI (by omega)))) ?_
    refine fm_callV (av := [.int (nI (k + 1 + i)), .int (nI (k + i))]) (rest := []) (ob := 586) (ci := 11) (r0 := ("AgentNetModel", F_Mo, 51)) (y := y_Mo_copyMessage) (bytes := b_Mo_copyMessage) hc fm_T0_good (fm_EX_st b x) hex q_1222 q_13 q_1219 q_1221 qs_Mo_copyMessage pd_Mo_copyMessage (by decide) (by omega) (by decide) (by decide) rfl rfl (rc_copyMsg (u := k + 1 + i) (v := k + i) (M := Mi) hn hRi (by omega) (by omega) (by omega) (i2 _ mx (by omega) hmx) (hok mx (List.mem_of_getElem? hmx))) ⟨rfl, rfl, Nat.le_of_ble_eq_true rfl, Nat.le_of_ble_eq_true rfl⟩ ⟨Nat.le_of_ble_eq_true rfl, Nat.le_of_ble_eq_true rfl⟩ d_Mo_net_116 (Nat.le_of_ble_eq_true rfl) (fun r n2 M2 hp => ?_)
    obtain ⟨rfl, hq1, t1, t2⟩ := hp
    replace hq1 := hq1.symm
    subst hq1
    revert t1 t2
    generalize M2 = Mb
    intro t1 t2
    refine fm_cnt (z' := (0, 0)) rfl (fm_st (st' := []) rfl ?_)
    refine fm_iinc (v := nI (k + 1 + i + 1)) (lv' := [(3, .int (nI (k + 1 + i + 1))), (0, .ref 586), (1, .int (nI k)), (2, .int (nI 0))]) hc d_Mo_net_119 rfl (nI_1 (k + 1 + i)) (by decide) rfl ?_
    refine fm_goto (tgt := 103) hc d_Mo_net_122 rfl ?_
    refine fm_dropl (lv' := [(3, .int (nI (k + 1 + (i + 1)))), (0, .ref 586), (1, .int (nI k)), (2, .int (nI 0))]) (by simp [Nat.add_assoc]) ?_
    refine ih _ ⟨fun c m hc he => ?_, fun c m hc he => hrWk_l (by omega) t2 (i2 c m (by omega) he), hrWk_l (by omega) t2 i3, (t2.2 _ _ (by omega) (by omega)).trans i4, fvM_tr i5 (fvM_l t2)⟩
    by_cases e : c = k + i
    · subst e
      rw [List.getElem?_eraseIdx, if_neg (by omega), show k + i + 1 = k + 1 + i by omega, hmx] at he
      rw [← Option.some.inj he]
      exact t1
    · exact hrWk_l e t2 (i1 c m (by omega) he)
  · obtain ⟨i1, i2, i3, i4, i5⟩ := hI
    have hRi : fm_RP Mi := fvM_RP i5 (fun q hq => hR q hq)
    have wu : hr_W (fm_put1 Mi 586 37 (nI (ms.length - 1))) (ms.eraseIdx k) := by
      refine ⟨by rw [hlen]; exact p1_same _ _ _ _, by omega, fun c m hc => ?_⟩
      have hc' : c < ms.length - 1 := by rw [← hlen]; exact (List.getElem?_eq_some_iff.mp hc).1
      exact hrWk_of (fun q a b => p1_other (by omega)) (fun i hi => p1_other (by decide)) (i1 c m (by omega) hc)
    have vu : fv_M (fm_put1 M 586 0 (nI 0)) (fm_put1 Mi 586 37 (nI (ms.length - 1))) := fvM_tr i5 ⟨rfl, fun q c a b _ _ => by
      by_cases e : q = 586
      · subst e; exact p1_at (by omega)
      · exact p1_other e⟩
    have k20 : hr_Wk (fm_put1 Mi 586 37 (nI (ms.length - 1))) 20 m0 := hrWk_of (fun q a b => p1_other (by omega)) (fun i hi => p1_other (by decide)) i3
    have hRu : fm_RP (fm_put1 Mi 586 37 (nI (ms.length - 1))) := fun q hq => hRi q hq
    refine fm_iload_n hc d_Mo_net_103 rfl rfl ?_
    refine fm_aload_n hc d_Mo_net_104 rfl rfl ?_
    refine fm_getI (k := 37) hc K_Mo d_Mo_net_105 q_922 rfl (by decide) (by omega) (by decide) (by decide) (by decide) rfl ?_
    refine fm_top (congrArg Value.int (show Mi.1 586 37 = nI ms.length from i4)) ?_
    refine fm_icmp_ge (tgt := 125) hc d_Mo_net_108 rfl (fun _ => ?_) (fun gQ => absurd (nI_le (by omega) (by omega)) gQ)
    refine fm_aload_n hc d_Mo_net_125 rfl rfl ?_
    refine fm_dup hc d_Mo_net_126 rfl ?_
    refine fm_getI (k := 37) hc K_Mo d_Mo_net_127 q_922 rfl (by decide) (by omega) (by decide) (by decide) (by decide) rfl ?_
    refine fm_top (congrArg Value.int (show Mi.1 586 37 = nI ms.length from i4)) ?_
    refine fm_iconst (v := nI 1) hc d_Mo_net_130 rfl ?_
    refine fm_isub hc d_Mo_net_131 ?_
    refine fm_top (congrArg Value.int (pk_sub (a := ms.length) (b := 1) (by omega))) ?_
    refine fm_putI (k := 37) (v := nI (ms.length - 1)) hc K_Mo d_Mo_net_132 q_922 rfl (by decide) (by omega) (by decide) (by decide) (by decide) rfl rfl rfl rfl ?_
    refine fm_iload_n hc d_Mo_net_135 rfl rfl ?_
    refine fm_if_ne (tgt := 143) hc d_Mo_net_136 rfl (fun gQ => absurd (by decide) gQ) (fun _ => ?_)
    refine fm_aload_n hc d_Mo_net_139 rfl rfl ?_
    refine fm_callV (av := []) (rest := []) (ob := 586) (ci := 11) (r0 := ("AgentNetModel", F_Mo, 51)) (y := y_Mo_deliver) (bytes := b_Mo_deliver) hc fm_T0_good (fm_EX_st b x) hex q_1226 q_13 q_1223 q_1225 qs_Mo_deliver pd_Mo_deliver (by decide) (by omega) (by decide) (by decide) rfl rfl (rc_deliver_down (j := j) (ma := m0.2.1) hn hRu hj ha8 (k20.2.2.2.2.1.trans hto) k20.2.1 ((vu.2 _ _ (by omega) (by omega) (by decide) (by decide)).trans ((p1_other (by decide)).trans hup))) ⟨rfl, rfl, Nat.le_of_ble_eq_true rfl, Nat.le_of_ble_eq_true rfl⟩ ⟨Nat.le_of_ble_eq_true rfl, Nat.le_of_ble_eq_true rfl⟩ d_Mo_net_140 (Nat.le_of_ble_eq_true rfl) (fun r n2 M2 hp => ?_)
    obtain ⟨rfl, hq1, hq2⟩ := hp
    replace hq1 := hq1.symm
    replace hq2 := hq2.symm
    subst hq1 hq2
    refine fm_cnt (z' := (0, 0)) rfl (fm_st (st' := []) rfl ?_)
    refine fm_aload_n hc d_Mo_net_143 rfl rfl ?_
    refine fm_getI (k := 37) hc K_Mo d_Mo_net_144 q_922 rfl (by decide) (by omega) (by decide) (by decide) (by decide) rfl ?_
    refine fm_top (congrArg Value.int (show (fm_put1 Mi 586 37 (nI (ms.length - 1))).1 586 37 = nI (ms.length - 1) from (p1_same _ _ _ _))) ?_
    exact fm_iret hc hr d_Mo_net_147 (Nat.le_refl _) (Nat.le_refl _) ⟨rfl, rfl, wu, (fkR_V vu)⟩
theorem r_net_up {l : Launch} {b : Nat} {x : Nat → Nat} {D : va_G} {dA : Nat → ClassId} {j k n : Nat} {m0 : mg_T} {A : ag_T} {m1 s1 : am_T} {ms : List mg_T} {M : fm_M} (hn : 629 ≤ n) (hR : fm_RP M) (hw : hr_W M ms) (hk : ms[k]? = some m0) (hok : ∀ m ∈ ms, m.1 ≤ 1) (hj : j < 4) (hto : m0.2.2.2.2.1 = nI j) (ha8 : m0.2.1 < 8) (him : m0.1 = 0 → m0.2.2.2.2.2 = im_B A ∧ ag_wf m0.2.1 A) (h : hr_M M (24 * j) m1) (g : hr_M M (24 * j + 16) s1) (hma : am_wfs m1) (hsa : am_wfs s1) (hup : ¬ M.1 595 j = 0) : Met l y_Mo_net (Cond.code y_Mo_net b_Mo_net 4 (some .int) :: fm_T0) ({ frames := 5, cells := 0, slots := 0, locals := 200 }) (fm_Pc fm_lay fm_nf fm_fk fm_cl b x D dA (fm_tys dA) (fm_EX b x) false [.ref 586, .int (nI k), .int (nI 0)] n M) (fm_Qc fm_lay fm_nf fm_fk fm_cl b x D dA (fun r n' M' => r = some (.int (nI (dv_W j m0 m1 s1 (ms.eraseIdx k)).length)) ∧ n' = n ∧ hr_W M' (dv_W j m0 m1 s1 (ms.eraseIdx k)) ∧ hr_M M' (24 * j) (dv_M m0 A m1) ∧ fk_R (24 * j) (fm_put1 M 586 0 (nI 0)) M')) 0 0 (fm_A b) := by
  refine fm_enter (by decide) (Nat.le_of_ble_eq_true rfl) ?_
  intro p e s m args below meth c9 hc hr hnm hex htg
  have hkl : k < ms.length := (List.getElem?_eq_some_iff.mp hk).1
  have h20 := hw.2.1
  have hwi : fm_wi (nI k) (nI 0) (nI (ms.length - 1)) := ⟨fun q => by have := (nI_ltI (a := k) (b := 0) (by omega) (by decide)).mp q; omega, fun q => by have := (nI_ltI (a := ms.length - 1) (b := k) (by omega) (by omega)).mp q; omega⟩
  have hw0 : hr_W (fm_put1 M 586 0 (nI 0)) ms := hrW_of (fun q i a c => p1_other (by omega)) (p1_at (by decide)) hw
  have hm0 := hok m0 (List.mem_of_getElem? hk)
  refine fm_aload_n hc d_Mo_net_0 rfl rfl ?_
  refine fm_iload_n hc d_Mo_net_1 rfl rfl ?_
  refine fm_iconst (v := nI 0) hc d_Mo_net_2 rfl ?_
  refine fm_iconst (v := nI 2) hc d_Mo_net_3 rfl ?_
  refine fm_callS (av := [.int (nI 0), .int (nI 0), .int (nI 2)]) (rest := [.ref 586]) (y := y_Mo_within) (bytes := b_Mo_within) hc fm_T0_good (fm_EX_st b x) hex q_1049 q_13 q_1047 q_1048 pd_Mo_within (c_Mo_within_ok ⟨by decide, by decide⟩) ⟨rfl, rfl, Nat.le_of_ble_eq_true rfl, Nat.le_of_ble_eq_true rfl⟩ ⟨Nat.le_of_ble_eq_true rfl, Nat.le_of_ble_eq_true rfl⟩ d_Mo_net_4 (Nat.le_of_ble_eq_true rfl) (fun r n2 M2 hp => ?_)
  obtain ⟨rfl, hq1, hq2⟩ := hp
  replace hq1 := hq1.symm
  replace hq2 := hq2.symm
  subst hq1 hq2
  refine fm_cnt (z' := (0, 0)) rfl (fm_st (st' := [.int (nI 1), .ref 586]) rfl ?_)
  refine fm_if_ne (tgt := 14) hc d_Mo_net_7 rfl (fun _ => ?_) (fun gQ => absurd gQ (by decide))
  refine fm_iload_n hc d_Mo_net_14 rfl rfl ?_
  refine fm_iconst (v := nI 0) hc d_Mo_net_15 rfl ?_
  refine fm_aload_n hc d_Mo_net_16 rfl rfl ?_
  refine fm_getI (k := 37) hc K_Mo d_Mo_net_17 q_922 rfl (by decide) (by omega) (by decide) (by decide) (by decide) rfl ?_
  refine fm_top (congrArg Value.int (show M.1 586 37 = nI ms.length from hw.1)) ?_
  refine fm_iconst (v := nI 1) hc d_Mo_net_20 rfl ?_
  refine fm_isub hc d_Mo_net_21 ?_
  refine fm_top (congrArg Value.int (pk_sub (a := ms.length) (b := 1) (by omega))) ?_
  refine fm_callS (av := [.int (nI k), .int (nI 0), .int (nI (ms.length - 1))]) (rest := [.ref 586]) (y := y_Mo_within) (bytes := b_Mo_within) hc fm_T0_good (fm_EX_st b x) hex q_1049 q_13 q_1047 q_1048 pd_Mo_within (c_Mo_within_ok hwi) ⟨rfl, rfl, Nat.le_of_ble_eq_true rfl, Nat.le_of_ble_eq_true rfl⟩ ⟨Nat.le_of_ble_eq_true rfl, Nat.le_of_ble_eq_true rfl⟩ d_Mo_net_22 (Nat.le_of_ble_eq_true rfl) (fun r n2 M2 hp => ?_)
  obtain ⟨rfl, hq1, hq2⟩ := hp
  replace hq1 := hq1.symm
  replace hq2 := hq2.symm
  subst hq1 hq2
  refine fm_cnt (z' := (0, 0)) rfl (fm_st (st' := [.int (nI 1), .ref 586]) rfl ?_)
  refine fm_if_ne (tgt := 32) hc d_Mo_net_25 rfl (fun _ => ?_) (fun gQ => absurd gQ (by decide))
  refine fm_iload_n hc d_Mo_net_32 rfl rfl ?_
  refine fm_iconst (v := nI 2) hc d_Mo_net_33 rfl ?_
  refine fm_icmp_ne (tgt := 50) hc d_Mo_net_34 rfl (fun _ => ?_) (fun gQ => absurd gQ (by decide))
  refine fm_iconst (v := nI 0) hc d_Mo_net_50 rfl ?_
  refine fm_putI (k := 0) (v := nI 0) hc K_Mo d_Mo_net_51 q_885 rfl (by decide) (by omega) (by decide) (by decide) (by decide) rfl rfl rfl rfl ?_
  refine fm_mem (M' := fm_put1 M 586 0 (nI 0)) rfl rfl ?_
  refine fm_aload_n hc d_Mo_net_54 rfl rfl ?_
  refine fm_getI (k := 0) hc K_Mo d_Mo_net_55 q_885 rfl (by decide) (by omega) (by decide) (by decide) (by decide) rfl ?_
  refine fm_top (congrArg Value.int (show (fm_put1 M 586 0 (nI 0)).1 586 0 = nI 0 from (p1_same _ _ _ _))) ?_
  refine fm_if_le (tgt := 63) hc d_Mo_net_58 rfl (fun _ => ?_) (fun gQ => absurd (by decide) gQ)
  refine fm_iload_n hc d_Mo_net_63 rfl rfl ?_
  refine fm_iconst (v := nI 2) hc d_Mo_net_64 rfl ?_
  refine fm_icmp_ne (tgt := 92) hc d_Mo_net_65 rfl (fun _ => ?_) (fun gQ => absurd gQ (by decide))
  refine fm_aload_n hc d_Mo_net_92 rfl rfl ?_
  refine fm_iload_n hc d_Mo_net_93 rfl rfl ?_
  refine fm_bipush (v := nI 20) hc d_Mo_net_94 rfl ?_
  refine fm_callV (av := [.int (nI k), .int (nI 20)]) (rest := []) (ob := 586) (ci := 11) (r0 := ("AgentNetModel", F_Mo, 51)) (y := y_Mo_copyMessage) (bytes := b_Mo_copyMessage) hc fm_T0_good (fm_EX_st b x) hex q_1222 q_13 q_1219 q_1221 qs_Mo_copyMessage pd_Mo_copyMessage (by decide) (by omega) (by decide) (by decide) rfl rfl (rc_copyMsg (u := k) (v := 20) (M := fm_put1 M 586 0 (nI 0)) hn (fun q hq => hR q hq) (by omega) (by omega) (by omega) (hw0.2.2 k m0 hk) hm0) ⟨rfl, rfl, Nat.le_of_ble_eq_true rfl, Nat.le_of_ble_eq_true rfl⟩ ⟨Nat.le_of_ble_eq_true rfl, Nat.le_of_ble_eq_true rfl⟩ d_Mo_net_96 (Nat.le_of_ble_eq_true rfl) (fun r n2 M2 hp => ?_)
  obtain ⟨rfl, hq1, r1, r2⟩ := hp
  replace hq1 := hq1.symm
  subst hq1
  revert r1 r2
  generalize M2 = Ma
  intro r1 r2
  have hRa : fm_RP Ma := flM_RP r2 (fun q hq => hR q hq)
  refine fm_cnt (z' := (0, 0)) rfl (fm_st (st' := []) rfl ?_)
  refine fm_iload_n hc d_Mo_net_99 rfl rfl ?_
  refine fm_iconst (v := nI 1) hc d_Mo_net_100 rfl ?_
  refine fm_iadd hc d_Mo_net_101 ?_
  refine fm_top (congrArg Value.int (nI_add k 1)) ?_
  refine fm_istore_n (lv' := [(3, .int (nI (k + 1))), (0, .ref 586), (1, .int (nI k)), (2, .int (nI 0))]) hc d_Mo_net_102 rfl (by decide) rfl ?_
  refine fm_dropl (lv' := [(3, .int (nI (k + 1 + 0))), (0, .ref 586), (1, .int (nI k)), (2, .int (nI 0))]) (by simp) ?_
  have hlen : (ms.eraseIdx k).length = ms.length - 1 := by rw [List.length_eraseIdx, if_pos hkl]
  have st0 : ∀ c m, ms[c]? = some m → hr_Wk Ma c m := fun c m hc => by
    have hc' : c < ms.length := (List.getElem?_eq_some_iff.mp hc).1
    exact hrWk_l (by omega) r2 (hw0.2.2 c m hc)
  refine fm_loopI (N := ms.length - 1 - k) (lv := fun i => [(3, .int (nI (k + 1 + i))), (0, .ref 586), (1, .int (nI k)), (2, .int (nI 0))]) (I := fun i M' => (∀ c m, c < k + i → (ms.eraseIdx k)[c]? = some m → hr_Wk M' c m) ∧ (∀ c m, k + i ≤ c → ms[c]? = some m → hr_Wk M' c m) ∧ hr_Wk M' 20 m0 ∧ M'.1 586 37 = nI ms.length ∧ fv_M (fm_put1 M 586 0 (nI 0)) M') (fun i Mi hi hI ih => ?_) (fun Mi hI => ?_) ⟨fun c m hc he => st0 c m (by rw [List.getElem?_eraseIdx, if_pos (by omega)] at he; exact he), fun c m _ hc => st0 c m hc, r1, (r2.2 _ _ (by omega) (by omega)).trans hw0.1, fvM_l r2⟩
  · obtain ⟨i1, i2, i3, i4, i5⟩ := hI
    have hRi : fm_RP Mi := fvM_RP i5 (fun q hq => hR q hq)
    obtain ⟨mx, hmx⟩ : ∃ m, ms[k + 1 + i]? = some m := ⟨_, List.getElem?_eq_getElem (by omega)⟩
    refine fm_iload_n hc d_Mo_net_103 rfl rfl ?_
    refine fm_aload_n hc d_Mo_net_104 rfl rfl ?_
    refine fm_getI (k := 37) hc K_Mo d_Mo_net_105 q_922 rfl (by decide) (by omega) (by decide) (by decide) (by decide) rfl ?_
    refine fm_top (congrArg Value.int (show Mi.1 586 37 = nI ms.length from i4)) ?_
    refine fm_icmp_ge (tgt := 125) hc d_Mo_net_108 rfl (fun gQ => absurd gQ (hnle (a := ms.length) (c := k + 1 + i) (by omega) (by omega))) (fun _ => ?_)
    refine fm_aload_n hc d_Mo_net_111 rfl rfl ?_
    refine fm_iload_n hc d_Mo_net_112 rfl rfl ?_
    refine fm_iload_n hc d_Mo_net_113 rfl rfl ?_
    refine fm_iconst (v := nI 1) hc d_Mo_net_114 rfl ?_
    refine fm_isub hc d_Mo_net_115 ?_
    refine fm_top (congrArg Value.int (pk_sub (a := k + 1 + i) (b := 1) (by omega))) ?_
    refine fm_top (congrArg Value.int (show nI ((k + 1 + i) - 1) = nI (k + i) from (congrArg nI (by omega)))) ?_
    refine fm_callV (av := [.int (nI (k + 1 + i)), .int (nI (k + i))]) (rest := []) (ob := 586) (ci := 11) (r0 := ("AgentNetModel", F_Mo, 51)) (y := y_Mo_copyMessage) (bytes := b_Mo_copyMessage) hc fm_T0_good (fm_EX_st b x) hex q_1222 q_13 q_1219 q_1221 qs_Mo_copyMessage pd_Mo_copyMessage (by decide) (by omega) (by decide) (by decide) rfl rfl (rc_copyMsg (u := k + 1 + i) (v := k + i) (M := Mi) hn hRi (by omega) (by omega) (by omega) (i2 _ mx (by omega) hmx) (hok mx (List.mem_of_getElem? hmx))) ⟨rfl, rfl, Nat.le_of_ble_eq_true rfl, Nat.le_of_ble_eq_true rfl⟩ ⟨Nat.le_of_ble_eq_true rfl, Nat.le_of_ble_eq_true rfl⟩ d_Mo_net_116 (Nat.le_of_ble_eq_true rfl) (fun r n2 M2 hp => ?_)
    obtain ⟨rfl, hq1, t1, t2⟩ := hp
    replace hq1 := hq1.symm
    subst hq1
    revert t1 t2
    generalize M2 = Mb
    intro t1 t2
    refine fm_cnt (z' := (0, 0)) rfl (fm_st (st' := []) rfl ?_)
    refine fm_iinc (v := nI (k + 1 + i + 1)) (lv' := [(3, .int (nI (k + 1 + i + 1))), (0, .ref 586), (1, .int (nI k)), (2, .int (nI 0))]) hc d_Mo_net_119 rfl (nI_1 (k + 1 + i)) (by decide) rfl ?_
    refine fm_goto (tgt := 103) hc d_Mo_net_122 rfl ?_
    refine fm_dropl (lv' := [(3, .int (nI (k + 1 + (i + 1)))), (0, .ref 586), (1, .int (nI k)), (2, .int (nI 0))]) (by simp [Nat.add_assoc]) ?_
    refine ih _ ⟨fun c m hc he => ?_, fun c m hc he => hrWk_l (by omega) t2 (i2 c m (by omega) he), hrWk_l (by omega) t2 i3, (t2.2 _ _ (by omega) (by omega)).trans i4, fvM_tr i5 (fvM_l t2)⟩
    by_cases e : c = k + i
    · subst e
      rw [List.getElem?_eraseIdx, if_neg (by omega), show k + i + 1 = k + 1 + i by omega, hmx] at he
      rw [← Option.some.inj he]
      exact t1
    · exact hrWk_l e t2 (i1 c m (by omega) he)
  · obtain ⟨i1, i2, i3, i4, i5⟩ := hI
    have hRi : fm_RP Mi := fvM_RP i5 (fun q hq => hR q hq)
    have wu : hr_W (fm_put1 Mi 586 37 (nI (ms.length - 1))) (ms.eraseIdx k) := by
      refine ⟨by rw [hlen]; exact p1_same _ _ _ _, by omega, fun c m hc => ?_⟩
      have hc' : c < ms.length - 1 := by rw [← hlen]; exact (List.getElem?_eq_some_iff.mp hc).1
      exact hrWk_of (fun q a b => p1_other (by omega)) (fun i hi => p1_other (by decide)) (i1 c m (by omega) hc)
    have vu : fv_M (fm_put1 M 586 0 (nI 0)) (fm_put1 Mi 586 37 (nI (ms.length - 1))) := fvM_tr i5 ⟨rfl, fun q c a b _ _ => by
      by_cases e : q = 586
      · subst e; exact p1_at (by omega)
      · exact p1_other e⟩
    have k20 : hr_Wk (fm_put1 Mi 586 37 (nI (ms.length - 1))) 20 m0 := hrWk_of (fun q a b => p1_other (by omega)) (fun i hi => p1_other (by decide)) i3
    have hRu : fm_RP (fm_put1 Mi 586 37 (nI (ms.length - 1))) := fun q hq => hRi q hq
    refine fm_iload_n hc d_Mo_net_103 rfl rfl ?_
    refine fm_aload_n hc d_Mo_net_104 rfl rfl ?_
    refine fm_getI (k := 37) hc K_Mo d_Mo_net_105 q_922 rfl (by decide) (by omega) (by decide) (by decide) (by decide) rfl ?_
    refine fm_top (congrArg Value.int (show Mi.1 586 37 = nI ms.length from i4)) ?_
    refine fm_icmp_ge (tgt := 125) hc d_Mo_net_108 rfl (fun _ => ?_) (fun gQ => absurd (nI_le (by omega) (by omega)) gQ)
    refine fm_aload_n hc d_Mo_net_125 rfl rfl ?_
    refine fm_dup hc d_Mo_net_126 rfl ?_
    refine fm_getI (k := 37) hc K_Mo d_Mo_net_127 q_922 rfl (by decide) (by omega) (by decide) (by decide) (by decide) rfl ?_
    refine fm_top (congrArg Value.int (show Mi.1 586 37 = nI ms.length from i4)) ?_
    refine fm_iconst (v := nI 1) hc d_Mo_net_130 rfl ?_
    refine fm_isub hc d_Mo_net_131 ?_
    refine fm_top (congrArg Value.int (pk_sub (a := ms.length) (b := 1) (by omega))) ?_
    refine fm_putI (k := 37) (v := nI (ms.length - 1)) hc K_Mo d_Mo_net_132 q_922 rfl (by decide) (by omega) (by decide) (by decide) (by decide) rfl rfl rfl rfl ?_
    refine fm_iload_n hc d_Mo_net_135 rfl rfl ?_
    refine fm_if_ne (tgt := 143) hc d_Mo_net_136 rfl (fun gQ => absurd (by decide) gQ) (fun _ => ?_)
    refine fm_aload_n hc d_Mo_net_139 rfl rfl ?_
    refine fm_callV (av := []) (rest := []) (ob := 586) (ci := 11) (r0 := ("AgentNetModel", F_Mo, 51)) (y := y_Mo_deliver) (bytes := b_Mo_deliver) hc fm_T0_good (fm_EX_st b x) hex q_1226 q_13 q_1223 q_1225 qs_Mo_deliver pd_Mo_deliver (by decide) (by omega) (by decide) (by decide) rfl rfl (rc_deliver (j := j) (A := A) (m0 := m0) (m1 := m1) (s1 := s1) (ms := (ms.eraseIdx k)) hn hRu hj hto k20 hm0 ha8 him ((fkR_V (b0 := 96) vu).2.2.2.1 _ _ (by omega) hma (hrM_o (by decide) h)) ((fkR_V (b0 := 96) vu).2.2.2.1 _ _ (by omega) hsa (hrM_o (by decide) g)) wu hma (by rw [vu.2 _ _ (by omega) (by omega) (by decide) (by decide), p1_other (by decide)]; exact hup)) ⟨rfl, rfl, Nat.le_of_ble_eq_true rfl, Nat.le_of_ble_eq_true rfl⟩ ⟨Nat.le_of_ble_eq_true rfl, Nat.le_of_ble_eq_true rfl⟩ d_Mo_net_140 (Nat.le_of_ble_eq_true rfl) (fun r n2 M2 hp => ?_)
    obtain ⟨rfl, hq1, v1, v2, v3⟩ := hp
    replace hq1 := hq1.symm
    subst hq1
    revert v1 v2 v3
    generalize M2 = Mz
    intro v1 v2 v3
    have hRz := fkR_RP v3 hRu
    refine fm_cnt (z' := (0, 0)) rfl (fm_st (st' := []) rfl ?_)
    refine fm_aload_n hc d_Mo_net_143 rfl rfl ?_
    refine fm_getI (k := 37) hc K_Mo d_Mo_net_144 q_922 rfl (by decide) (by omega) (by decide) (by decide) (by decide) rfl ?_
    refine fm_top (congrArg Value.int (show Mz.1 586 37 = nI ((dv_W j m0 m1 s1 (ms.eraseIdx k)).length) from v2.1)) ?_
    exact fm_iret hc hr d_Mo_net_147 (Nat.le_refl _) (Nat.le_refl _) ⟨rfl, rfl, v2, v1, (fkR_tr (fkR_V vu) v3)⟩
