/-! THE REFERENCE: the wire; post -/
def hr_Wk (M : fm_M) (k : Nat) (m : mg_T) : Prop := M.1 621 k = nI m.1 ∧ M.1 622 k = nI m.2.1 ∧ M.1 623 k = m.2.2.1 ∧ M.1 624 k = m.2.2.2.1 ∧ M.1 625 k = m.2.2.2.2.1 ∧ M.1 626 k = nI m.2.2.2.2.2.length ∧ m.2.2.2.2.2.length ≤ 121 ∧ ∀ i v, m.2.2.2.2.2[i]? = some v → M.1 627 (128 * k + i) = nI v
def hr_W (M : fm_M) (ms : List mg_T) : Prop := M.1 586 37 = nI ms.length ∧ ms.length ≤ 20 ∧ ∀ k m, ms[k]? = some m → hr_Wk M k m
def fv_M (M M' : fm_M) : Prop := M'.2 = M.2 ∧ ∀ q j, ¬ (621 ≤ q ∧ q ≤ 627) → ¬ (q = 586 ∧ (j = 37 ∨ j = 45 ∨ j = 32)) → q ≠ 617 → q ≠ 618 → M'.1 q j = M.1 q j
theorem fvM_rf (M : fm_M) : fv_M M M := ⟨rfl, fun _ _ _ _ _ _ => rfl⟩
theorem fvM_tr {M M1 M2 : fm_M} (h : fv_M M M1) (g : fv_M M1 M2) : fv_M M M2 := ⟨g.1.trans h.1, fun q j a c d e => (g.2 q j a c d e).trans (h.2 q j a c d e)⟩
theorem fvM_RP {M M' : fm_M} (h : fv_M M M') (g : fm_RP M) : fm_RP M' := fun q hq => by rw [h.1]; exact g q hq
theorem hrWk_of {M M' : fm_M} {k : Nat} {m : mg_T} (e : ∀ q, 621 ≤ q → q ≤ 626 → M'.1 q k = M.1 q k) (e7 : ∀ i, i < 121 → M'.1 627 (128 * k + i) = M.1 627 (128 * k + i)) (h : hr_Wk M k m) : hr_Wk M' k m := by
  obtain ⟨h1, h2, h3, h4, h5, h6, h7, h8⟩ := h
  refine ⟨(e _ (by omega) (by omega)).trans h1, (e _ (by omega) (by omega)).trans h2, (e _ (by omega) (by omega)).trans h3, (e _ (by omega) (by omega)).trans h4, (e _ (by omega) (by omega)).trans h5, (e _ (by omega) (by omega)).trans h6, h7, fun i v hv => (e7 i ?_).trans (h8 i v hv)⟩
  have := (List.getElem?_eq_some_iff.mp hv).1
  omega
theorem hrW_of {M M' : fm_M} {ms : List mg_T} (e : ∀ q i, 621 ≤ q → q ≤ 627 → M'.1 q i = M.1 q i) (e7 : M'.1 586 37 = M.1 586 37) (h : hr_W M ms) : hr_W M' ms :=
  ⟨e7.trans h.1, h.2.1, fun k m hk => hrWk_of (fun q a c => e q k a (by omega)) (fun i _ => e 627 _ (by omega) (by omega)) (h.2.2 k m hk)⟩
theorem p1_k {M : fm_M} {q o j k : Nat} {v : Int32} (h : k ≠ j) : (fm_put1 M o j v).1 q k = M.1 q k := by
  by_cases g : q = o
  · subst g
    exact p1_at h
  · exact p1_other g
theorem hrM_eq {b0 : Nat} {M M' : fm_M} {m : am_T} (e : ∀ q i, 597 ≤ q → q ≤ 616 → M'.1 q i = M.1 q i) (e2 : M'.2.1 = M.2.1) (h : hr_M M b0 m) : hr_M M' b0 m := by
  obtain ⟨S, K, O, T, G, H, V, D⟩ := m
  obtain ⟨h1, h2, h3, h4, h5, h6, h7, h8, h9⟩ := h
  refine ⟨fun a ha => (e _ _ (by omega) (by omega)).trans (h1 a ha), fun a ha hs => (e _ _ (by omega) (by omega)).trans (h2 a ha hs), fun a ha => (e _ _ (by omega) (by omega)).trans (h3 a ha), fun a ha => (e _ _ (by omega) (by omega)).trans (h4 a ha), fun a ha => (e _ _ (by omega) (by omega)).trans (h5 a ha), fun a ha => (e _ _ (by omega) (by omega)).trans (h6 a ha), fun a i ha hi => (e _ _ (by omega) (by omega)).trans (h7 a i ha hi), fun a ha => by rw [e _ _ (by omega) (by omega)]; exact h8 a ha, fun a ha hs => ?_⟩
  obtain ⟨g, q1, q2, q3, q4, q5, q6⟩ := h9 a ha hs
  refine ⟨g, fun k c d f => (e _ _ (by omega) (by omega)).trans (q1 k c d f), (e _ _ (by omega) (by omega)).trans q2, q3, q4, ?_, ?_⟩
  · rw [e2]; exact q5
  · rw [e2]; exact q6
/-- what one host's step leaves of another memory -/
theorem hrM_R {b0 b1 : Nat} {M M' : fm_M} {m : am_T} (hd : b0 + 8 ≤ b1 ∨ b1 + 8 ≤ b0) (w : am_wfs m) (f : fr_R b0 M M') (h : hr_M M b1 m) : hr_M M' b1 m := by
  obtain ⟨S, K, O, T, G, H, V, D⟩ := m
  obtain ⟨h1, h2, h3, h4, h5, h6, h7, h8, h9⟩ := h
  have e : ∀ q i, 597 ≤ q → q ≤ 614 → q ≠ 603 → q ≠ 604 → b1 ≤ i → i < b1 + 8 → M'.1 q i = M.1 q i := fun q i a b c d x y => f.2.1 q i (by omega) (by omega) (by omega) d (by omega) (by omega) (by omega)
  refine ⟨fun a ha => (e _ _ (by omega) (by omega) (by omega) (by omega) (by omega) (by omega)).trans (h1 a ha), fun a ha hs => (e _ _ (by omega) (by omega) (by omega) (by omega) (by omega) (by omega)).trans (h2 a ha hs), fun a ha => (e _ _ (by omega) (by omega) (by omega) (by omega) (by omega) (by omega)).trans (h3 a ha), fun a ha => (e _ _ (by omega) (by omega) (by omega) (by omega) (by omega) (by omega)).trans (h4 a ha), fun a ha => (e _ _ (by omega) (by omega) (by omega) (by omega) (by omega) (by omega)).trans (h5 a ha), fun a ha => (e _ _ (by omega) (by omega) (by omega) (by omega) (by omega) (by omega)).trans (h6 a ha), fun a i ha hi => (f.2.1 _ _ (by omega) (by omega) (by omega) (by decide) (by decide) (by decide) (by omega)).trans (h7 a i ha hi), fun a ha => by rw [e _ _ (by omega) (by omega) (by omega) (by omega) (by omega) (by omega)]; exact h8 a ha, fun a ha hs => ?_⟩
  obtain ⟨g, hg⟩ := h9 a ha hs
  exact ⟨g, hrG_at1 (w.2 a ha hs).1 hg (fun k _ _ => e _ _ (by omega) (by omega) (by omega) (by omega) (by omega) (by omega)) (fun k hk => f.2.2 _ _ (by omega) (by omega) (by decide) (by decide)) (fun k hk => ⟨f.2.2 _ _ (by omega) (by omega) (by decide) (by decide), f.2.2 _ _ (by omega) (by omega) (by decide) (by decide)⟩)⟩
/-- what an operation at the memory b0 leaves -/
def fk_R (b0 : Nat) (M M' : fm_M) : Prop := M'.2.2 = M.2.2 ∧ (∀ i, i = 4 ∨ i = 0 → M'.1 586 i = M.1 586 i) ∧ (∀ q, 587 ≤ q → q ≤ 596 → M'.1 q = M.1 q) ∧ (∀ b1 m, (b0 + 8 ≤ b1 ∨ b1 + 8 ≤ b0) → am_wfs m → hr_M M b1 m → hr_M M' b1 m) ∧ (∀ q, (q < 586 ∨ 628 < q) → M'.1 q = M.1 q ∧ M'.2.1 q = M.2.1 q)
theorem fkR_rf (b0 : Nat) (M : fm_M) : fk_R b0 M M := ⟨rfl, fun _ _ => rfl, fun _ _ _ => rfl, fun _ _ _ _ h => h, fun _ _ => ⟨rfl, rfl⟩⟩
theorem fkR_tr {b0 : Nat} {M M1 M2 : fm_M} (h : fk_R b0 M M1) (g : fk_R b0 M1 M2) : fk_R b0 M M2 := ⟨g.1.trans h.1, fun i e => (g.2.1 i e).trans (h.2.1 i e), fun q a c => (g.2.2.1 q a c).trans (h.2.2.1 q a c), fun b1 m a c d => g.2.2.2.1 b1 m a c (h.2.2.2.1 b1 m a c d), fun q a => ⟨(g.2.2.2.2 q a).1.trans (h.2.2.2.2 q a).1, (g.2.2.2.2 q a).2.trans (h.2.2.2.2 q a).2⟩⟩
theorem fkR_RP {b0 : Nat} {M M' : fm_M} (h : fk_R b0 M M') (g : fm_RP M) : fm_RP M' := fun q hq => by rw [h.1]; exact g q hq
theorem fkR_R {b0 : Nat} {M M' : fm_M} (hb : b0 + 8 ≤ 96) (f : fr_R b0 M M') : fk_R b0 M M' := ⟨f.1, fun i e => f.2.1 586 i (by omega) (by omega) (by omega) (by decide) (by decide) (by decide) (by omega), fun q a c => funext fun i => f.2.1 _ _ (by omega) (by omega) (by omega) (by omega) (by omega) (by omega) (by omega), fun b1 m a c d => hrM_R a c f d, fun q a => ⟨funext fun i => f.2.1 _ _ (by omega) (by omega) (by omega) (by omega) (by omega) (by omega) (by omega), funext fun i => f.2.2 _ _ (by omega) (by omega) (by omega) (by omega)⟩⟩
theorem fkR_V {b0 : Nat} {M M' : fm_M} (f : fv_M M M') : fk_R b0 M M' := ⟨by rw [f.1], fun i e => f.2 586 i (by omega) (by omega) (by decide) (by decide), fun q a c => funext fun i => f.2 _ _ (by omega) (by omega) (by omega) (by omega), fun b1 m a c d => hrM_eq (fun q i x y => f.2 _ _ (by omega) (by omega) (by omega) (by omega)) (by rw [f.1]) d, fun q a => ⟨funext fun i => f.2 _ _ (by omega) (by omega) (by omega) (by omega), by rw [f.1]⟩⟩
theorem hrW_R {b0 : Nat} {M M' : fm_M} {ms : List mg_T} (f : fr_R b0 M M') (h : hr_W M ms) : hr_W M' ms := hrW_of (fun q i a c => f.2.1 _ _ (by omega) (by omega) (by omega) (by omega) (by omega) (by omega) (by omega)) (f.2.1 _ _ (by omega) (by omega) (by omega) (by decide) (by decide) (by decide) (by omega)) h
theorem rc_post0 {l : Launch} {b : Nat} {x : Nat → Nat} {D : va_G} {dA : Nat → ClassId} {a ln : Nat} {v f t2 : Int32} {n : Nat} {M : fm_M} (hn : 629 ≤ n) (hR : fm_RP M) (hu : M.1 586 37 = nI ln) (h20 : ln < 20) : Met l y_Mo_post (Cond.code y_Mo_post b_Mo_post 6 (some .int) :: fm_T0) ({ frames := 0, cells := 0, slots := 0, locals := 0 }) (fm_Pc fm_lay fm_nf fm_fk fm_cl b x D dA (fm_tys dA) (fm_EX b x) false [.ref 586, .int (nI 0), .int (nI a), .int v, .int f, .int t2] n M) (fm_Qc fm_lay fm_nf fm_fk fm_cl b x D dA (fun r n' M' => r = some (.int (nI ln)) ∧ n' = n ∧ M' = fm_put1 (fm_put1 (fm_put1 (fm_put1 (fm_put1 (fm_put1 (fm_put1 M 621 ln (nI 0)) 622 ln (nI a)) 623 ln v) 624 ln f) 625 ln t2) 626 ln (nI 0)) 586 37 (nI (ln + 1)))) 0 0 (fm_A b) := by
  refine fm_enter (by decide) (Nat.le_of_ble_eq_true rfl) ?_
  intro p e s m args below meth c9 hc hr hnm hex htg
  refine fm_aload_n hc d_Mo_post_0 rfl rfl ?_
  refine fm_getI (k := 37) hc K_Mo d_Mo_post_1 q_922 rfl (by decide) (by omega) (by decide) (by decide) (by decide) rfl ?_
  refine fm_top (congrArg Value.int (show M.1 586 37 = nI ln from (hu))) ?_
  refine fm_bipush (v := nI 20) hc d_Mo_post_4 rfl ?_
  refine fm_icmp_ne (tgt := 11) hc d_Mo_post_6 rfl (fun _ => ?_) (fun g => absurd g (fun q => absurd (nI_inj (by omega) (by decide) q) (by omega)))
  refine fm_aload_n hc d_Mo_post_11 rfl rfl ?_
  refine fm_getR (k := 38) (q := 621) hc K_Mo d_Mo_post_12 q_923 rfl (by decide) (by omega) (by decide) (by decide) (by decide) rfl (rp_receipt hR) ?_
  refine fm_aload_n hc d_Mo_post_15 rfl rfl ?_
  refine fm_getI (k := 37) hc K_Mo d_Mo_post_16 q_922 rfl (by decide) (by omega) (by decide) (by decide) (by decide) rfl ?_
  refine fm_top (congrArg Value.int (show M.1 586 37 = nI ln from (hu))) ?_
  refine fm_iload_n hc d_Mo_post_19 rfl rfl ?_
  refine fm_zast (j := ln) (len := 21) (v := nI 0) hc 1 d_Mo_post_20 (by decide) (by omega) (by decide) rfl (by omega) (by decide) ?_
  refine fm_mem (M' := fm_put1 M 621 ln (nI 0)) rfl rfl ?_
  refine fm_aload_n hc d_Mo_post_21 rfl rfl ?_
  refine fm_getR (k := 39) (q := 622) hc K_Mo d_Mo_post_22 q_924 rfl (by decide) (by omega) (by decide) (by decide) (by decide) rfl (rp_who hR) ?_
  refine fm_aload_n hc d_Mo_post_25 rfl rfl ?_
  refine fm_getI (k := 37) hc K_Mo d_Mo_post_26 q_922 rfl (by decide) (by omega) (by decide) (by decide) (by decide) rfl ?_
  refine fm_top (congrArg Value.int (show (fm_put1 M 621 ln (nI 0)).1 586 37 = nI ln from ((p1_other (by decide)).trans (hu)))) ?_
  refine fm_iload_n hc d_Mo_post_29 rfl rfl ?_
  refine fm_iast (j := ln) (len := 21) (v := nI a) hc 0 d_Mo_post_30 (by decide) (by omega) (by decide) rfl (by omega) (by decide) ?_
  refine fm_aload_n hc d_Mo_post_31 rfl rfl ?_
  refine fm_getR (k := 40) (q := 623) hc K_Mo d_Mo_post_32 q_925 rfl (by decide) (by omega) (by decide) (by decide) (by decide) rfl (rp_far hR) ?_
  refine fm_aload_n hc d_Mo_post_35 rfl rfl ?_
  refine fm_getI (k := 37) hc K_Mo d_Mo_post_36 q_922 rfl (by decide) (by omega) (by decide) (by decide) (by decide) rfl ?_
  refine fm_top (congrArg Value.int (show (fm_put1 (fm_put1 M 621 ln (nI 0)) 622 ln (nI a)).1 586 37 = nI ln from ((p1_other (by decide)).trans ((p1_other (by decide)).trans (hu))))) ?_
  refine fm_iload_n hc d_Mo_post_39 rfl rfl ?_
  refine fm_iast (j := ln) (len := 21) (v := v) hc 0 d_Mo_post_40 (by decide) (by omega) (by decide) rfl (by omega) (by decide) ?_
  refine fm_aload_n hc d_Mo_post_41 rfl rfl ?_
  refine fm_getR (k := 41) (q := 624) hc K_Mo d_Mo_post_42 q_926 rfl (by decide) (by omega) (by decide) (by decide) (by decide) rfl (rp_from hR) ?_
  refine fm_aload_n hc d_Mo_post_45 rfl rfl ?_
  refine fm_getI (k := 37) hc K_Mo d_Mo_post_46 q_922 rfl (by decide) (by omega) (by decide) (by decide) (by decide) rfl ?_
  refine fm_top (congrArg Value.int (show (fm_put1 (fm_put1 (fm_put1 M 621 ln (nI 0)) 622 ln (nI a)) 623 ln v).1 586 37 = nI ln from ((p1_other (by decide)).trans ((p1_other (by decide)).trans ((p1_other (by decide)).trans (hu)))))) ?_
  refine fm_iload hc d_Mo_post_49 rfl ?_
  refine fm_iast (j := ln) (len := 21) (v := f) hc 0 d_Mo_post_51 (by decide) (by omega) (by decide) rfl (by omega) (by decide) ?_
  refine fm_aload_n hc d_Mo_post_52 rfl rfl ?_
  refine fm_getR (k := 42) (q := 625) hc K_Mo d_Mo_post_53 q_927 rfl (by decide) (by omega) (by decide) (by decide) (by decide) rfl (rp_to hR) ?_
  refine fm_aload_n hc d_Mo_post_56 rfl rfl ?_
  refine fm_getI (k := 37) hc K_Mo d_Mo_post_57 q_922 rfl (by decide) (by omega) (by decide) (by decide) (by decide) rfl ?_
  refine fm_top (congrArg Value.int (show (fm_put1 (fm_put1 (fm_put1 (fm_put1 M 621 ln (nI 0)) 622 ln (nI a)) 623 ln v) 624 ln f).1 586 37 = nI ln from ((p1_other (by decide)).trans ((p1_other (by decide)).trans ((p1_other (by decide)).trans ((p1_other (by decide)).trans (hu))))))) ?_
  refine fm_iload hc d_Mo_post_60 rfl ?_
  refine fm_iast (j := ln) (len := 21) (v := t2) hc 0 d_Mo_post_62 (by decide) (by omega) (by decide) rfl (by omega) (by decide) ?_
  refine fm_aload_n hc d_Mo_post_63 rfl rfl ?_
  refine fm_getR (k := 43) (q := 626) hc K_Mo d_Mo_post_64 q_928 rfl (by decide) (by omega) (by decide) (by decide) (by decide) rfl (rp_long1 hR) ?_
  refine fm_aload_n hc d_Mo_post_67 rfl rfl ?_
  refine fm_getI (k := 37) hc K_Mo d_Mo_post_68 q_922 rfl (by decide) (by omega) (by decide) (by decide) (by decide) rfl ?_
  refine fm_top (congrArg Value.int (show (fm_put1 (fm_put1 (fm_put1 (fm_put1 (fm_put1 M 621 ln (nI 0)) 622 ln (nI a)) 623 ln v) 624 ln f) 625 ln t2).1 586 37 = nI ln from ((p1_other (by decide)).trans ((p1_other (by decide)).trans ((p1_other (by decide)).trans ((p1_other (by decide)).trans ((p1_other (by decide)).trans (hu)))))))) ?_
  refine fm_iconst (v := nI 0) hc d_Mo_post_71 rfl ?_
  refine fm_iast (j := ln) (len := 21) (v := nI 0) hc 0 d_Mo_post_72 (by decide) (by omega) (by decide) rfl (by omega) (by decide) ?_
  refine fm_aload_n hc d_Mo_post_73 rfl rfl ?_
  refine fm_dup hc d_Mo_post_74 rfl ?_
  refine fm_getI (k := 37) hc K_Mo d_Mo_post_75 q_922 rfl (by decide) (by omega) (by decide) (by decide) (by decide) rfl ?_
  refine fm_top (congrArg Value.int (show (fm_put1 (fm_put1 (fm_put1 (fm_put1 (fm_put1 (fm_put1 M 621 ln (nI 0)) 622 ln (nI a)) 623 ln v) 624 ln f) 625 ln t2) 626 ln (nI 0)).1 586 37 = nI ln from ((p1_other (by decide)).trans ((p1_other (by decide)).trans ((p1_other (by decide)).trans ((p1_other (by decide)).trans ((p1_other (by decide)).trans ((p1_other (by decide)).trans (hu))))))))) ?_
  refine fm_iconst (v := nI 1) hc d_Mo_post_78 rfl ?_
  refine fm_iadd hc d_Mo_post_79 ?_
  refine fm_top (congrArg Value.int (nI_add ln 1)) ?_
  refine fm_putI (k := 37) (v := nI (ln + 1)) hc K_Mo d_Mo_post_80 q_922 rfl (by decide) (by omega) (by decide) (by decide) (by decide) rfl rfl rfl rfl ?_
  refine fm_aload_n hc d_Mo_post_83 rfl rfl ?_
  refine fm_getI (k := 37) hc K_Mo d_Mo_post_84 q_922 rfl (by decide) (by omega) (by decide) (by decide) (by decide) rfl ?_
  refine fm_top (congrArg Value.int (show (fm_put1 (fm_put1 (fm_put1 (fm_put1 (fm_put1 (fm_put1 (fm_put1 M 621 ln (nI 0)) 622 ln (nI a)) 623 ln v) 624 ln f) 625 ln t2) 626 ln (nI 0)) 586 37 (nI (ln + 1))).1 586 37 = nI (ln + 1) from (p1_same _ _ _ _))) ?_
  refine fm_iconst (v := nI 1) hc d_Mo_post_87 rfl ?_
  refine fm_isub hc d_Mo_post_88 ?_
  refine fm_top (congrArg Value.int (pk_sub (a := ln + 1) (b := 1) (by omega))) ?_
  refine fm_top (congrArg Value.int (show nI ((ln + 1) - 1) = nI ln from (congrArg nI (Nat.add_sub_cancel ln 1)))) ?_
  exact fm_iret hc hr d_Mo_post_89 (Nat.le_refl _) (Nat.le_refl _) ⟨rfl, rfl, rfl⟩
theorem rc_postF0 {l : Launch} {b : Nat} {x : Nat → Nat} {D : va_G} {dA : Nat → ClassId} {a : Nat} {v f t2 : Int32} {n : Nat} {M : fm_M} (hn : 629 ≤ n) (hR : fm_RP M) (hu : M.1 586 37 = nI 20) : Met l y_Mo_post (Cond.code y_Mo_post b_Mo_post 6 (some .int) :: fm_T0) ({ frames := 0, cells := 0, slots := 0, locals := 0 }) (fm_Pc fm_lay fm_nf fm_fk fm_cl b x D dA (fm_tys dA) (fm_EX b x) false [.ref 586, .int (nI 0), .int (nI a), .int v, .int f, .int t2] n M) (fm_Qc fm_lay fm_nf fm_fk fm_cl b x D dA (fun r n' M' => r = some (.int (-1)) ∧ n' = n ∧ M' = M)) 0 0 (fm_A b) := by
  refine fm_enter (by decide) (Nat.le_of_ble_eq_true rfl) ?_
  intro p e s m args below meth c9 hc hr hnm hex htg
  refine fm_aload_n hc d_Mo_post_0 rfl rfl ?_
  refine fm_getI (k := 37) hc K_Mo d_Mo_post_1 q_922 rfl (by decide) (by omega) (by decide) (by decide) (by decide) rfl ?_
  refine fm_top (congrArg Value.int (show M.1 586 37 = nI 20 from hu)) ?_
  refine fm_bipush (v := nI 20) hc d_Mo_post_4 rfl ?_
  refine fm_icmp_ne (tgt := 11) hc d_Mo_post_6 rfl (fun g => absurd (by decide) g) (fun _ => ?_)
  refine fm_iconst (v := (-1)) hc d_Mo_post_9 rfl ?_
  exact fm_iret hc hr d_Mo_post_10 (Nat.le_refl _) (Nat.le_refl _) ⟨rfl, rfl, rfl⟩
theorem hrW_post0 {a : Nat} {v f t2 : Int32} {ms : List mg_T} {M : fm_M} (h : hr_W M ms) (hl : ms.length < 20) : hr_W (fm_put1 (fm_put1 (fm_put1 (fm_put1 (fm_put1 (fm_put1 (fm_put1 M 621 ms.length (nI 0)) 622 ms.length (nI a)) 623 ms.length v) 624 ms.length f) 625 ms.length t2) 626 ms.length (nI 0)) 586 37 (nI (ms.length + 1))) (ms ++ [(0, a, v, f, t2, [])]) := by
  refine ⟨by rw [List.length_append, p1_same]; rfl, by rw [List.length_append]; exact hl, fun k m hk => ?_⟩
  rcases ap_at hk with ⟨h1, h2⟩ | ⟨h1, h2⟩
  · refine hrWk_of (fun q c d => ?_) (fun i hi => ?_) (h.2.2 k m h2)
    · rw [p1_other (by omega), p1_k h1, p1_k h1, p1_k h1, p1_k h1, p1_k h1, p1_k h1]
    · simp [fm_put1, va_up]
  · subst h1 h2
    refine ⟨?_, ?_, ?_, ?_, ?_, ?_, Nat.zero_le _, fun i v hv => by simp at hv⟩ <;> simp [fm_put1, va_up]
theorem fvM_post0 {a ln : Nat} {v f t2 : Int32} {M : fm_M} : fv_M M (fm_put1 (fm_put1 (fm_put1 (fm_put1 (fm_put1 (fm_put1 (fm_put1 M 621 ln (nI 0)) 622 ln (nI a)) 623 ln v) 624 ln f) 625 ln t2) 626 ln (nI 0)) 586 37 (nI (ln + 1))) := ⟨rfl, fun q j c d _ _ => by
  by_cases g : q = 586
  · subst g
    rw [p1_at (by omega)]
    simp [fm_put1, va_up]
  · rw [p1_other g, p1_other (by omega), p1_other (by omega), p1_other (by omega), p1_other (by omega), p1_other (by omega), p1_other (by omega)]⟩
theorem rc_post1 {l : Launch} {b : Nat} {x : Nat → Nat} {D : va_G} {dA : Nat → ClassId} {a ln : Nat} {v f t2 : Int32} {n : Nat} {M : fm_M} (hn : 629 ≤ n) (hR : fm_RP M) (hu : M.1 586 37 = nI ln) (h20 : ln < 20) : Met l y_Mo_post (Cond.code y_Mo_post b_Mo_post 6 (some .int) :: fm_T0) ({ frames := 0, cells := 0, slots := 0, locals := 0 }) (fm_Pc fm_lay fm_nf fm_fk fm_cl b x D dA (fm_tys dA) (fm_EX b x) false [.ref 586, .int (nI 1), .int (nI a), .int v, .int f, .int t2] n M) (fm_Qc fm_lay fm_nf fm_fk fm_cl b x D dA (fun r n' M' => r = some (.int (nI ln)) ∧ n' = n ∧ M' = fm_put1 (fm_put1 (fm_put1 (fm_put1 (fm_put1 (fm_put1 (fm_put1 M 621 ln (nI 1)) 622 ln (nI a)) 623 ln v) 624 ln f) 625 ln t2) 626 ln (nI 0)) 586 37 (nI (ln + 1)))) 0 0 (fm_A b) := by
  refine fm_enter (by decide) (Nat.le_of_ble_eq_true rfl) ?_
  intro p e s m args below meth c9 hc hr hnm hex htg
  refine fm_aload_n hc d_Mo_post_0 rfl rfl ?_
  refine fm_getI (k := 37) hc K_Mo d_Mo_post_1 q_922 rfl (by decide) (by omega) (by decide) (by decide) (by decide) rfl ?_
  refine fm_top (congrArg Value.int (show M.1 586 37 = nI ln from (hu))) ?_
  refine fm_bipush (v := nI 20) hc d_Mo_post_4 rfl ?_
  refine fm_icmp_ne (tgt := 11) hc d_Mo_post_6 rfl (fun _ => ?_) (fun g => absurd g (fun q => absurd (nI_inj (by omega) (by decide) q) (by omega)))
  refine fm_aload_n hc d_Mo_post_11 rfl rfl ?_
  refine fm_getR (k := 38) (q := 621) hc K_Mo d_Mo_post_12 q_923 rfl (by decide) (by omega) (by decide) (by decide) (by decide) rfl (rp_receipt hR) ?_
  refine fm_aload_n hc d_Mo_post_15 rfl rfl ?_
  refine fm_getI (k := 37) hc K_Mo d_Mo_post_16 q_922 rfl (by decide) (by omega) (by decide) (by decide) (by decide) rfl ?_
  refine fm_top (congrArg Value.int (show M.1 586 37 = nI ln from (hu))) ?_
  refine fm_iload_n hc d_Mo_post_19 rfl rfl ?_
  refine fm_zast (j := ln) (len := 21) (v := nI 1) hc 1 d_Mo_post_20 (by decide) (by omega) (by decide) rfl (by omega) (by decide) ?_
  refine fm_mem (M' := fm_put1 M 621 ln (nI 1)) rfl rfl ?_
  refine fm_aload_n hc d_Mo_post_21 rfl rfl ?_
  refine fm_getR (k := 39) (q := 622) hc K_Mo d_Mo_post_22 q_924 rfl (by decide) (by omega) (by decide) (by decide) (by decide) rfl (rp_who hR) ?_
  refine fm_aload_n hc d_Mo_post_25 rfl rfl ?_
  refine fm_getI (k := 37) hc K_Mo d_Mo_post_26 q_922 rfl (by decide) (by omega) (by decide) (by decide) (by decide) rfl ?_
  refine fm_top (congrArg Value.int (show (fm_put1 M 621 ln (nI 1)).1 586 37 = nI ln from ((p1_other (by decide)).trans (hu)))) ?_
  refine fm_iload_n hc d_Mo_post_29 rfl rfl ?_
  refine fm_iast (j := ln) (len := 21) (v := nI a) hc 0 d_Mo_post_30 (by decide) (by omega) (by decide) rfl (by omega) (by decide) ?_
  refine fm_aload_n hc d_Mo_post_31 rfl rfl ?_
  refine fm_getR (k := 40) (q := 623) hc K_Mo d_Mo_post_32 q_925 rfl (by decide) (by omega) (by decide) (by decide) (by decide) rfl (rp_far hR) ?_
  refine fm_aload_n hc d_Mo_post_35 rfl rfl ?_
  refine fm_getI (k := 37) hc K_Mo d_Mo_post_36 q_922 rfl (by decide) (by omega) (by decide) (by decide) (by decide) rfl ?_
  refine fm_top (congrArg Value.int (show (fm_put1 (fm_put1 M 621 ln (nI 1)) 622 ln (nI a)).1 586 37 = nI ln from ((p1_other (by decide)).trans ((p1_other (by decide)).trans (hu))))) ?_
  refine fm_iload_n hc d_Mo_post_39 rfl rfl ?_
  refine fm_iast (j := ln) (len := 21) (v := v) hc 0 d_Mo_post_40 (by decide) (by omega) (by decide) rfl (by omega) (by decide) ?_
  refine fm_aload_n hc d_Mo_post_41 rfl rfl ?_
  refine fm_getR (k := 41) (q := 624) hc K_Mo d_Mo_post_42 q_926 rfl (by decide) (by omega) (by decide) (by decide) (by decide) rfl (rp_from hR) ?_
  refine fm_aload_n hc d_Mo_post_45 rfl rfl ?_
  refine fm_getI (k := 37) hc K_Mo d_Mo_post_46 q_922 rfl (by decide) (by omega) (by decide) (by decide) (by decide) rfl ?_
  refine fm_top (congrArg Value.int (show (fm_put1 (fm_put1 (fm_put1 M 621 ln (nI 1)) 622 ln (nI a)) 623 ln v).1 586 37 = nI ln from ((p1_other (by decide)).trans ((p1_other (by decide)).trans ((p1_other (by decide)).trans (hu)))))) ?_
  refine fm_iload hc d_Mo_post_49 rfl ?_
  refine fm_iast (j := ln) (len := 21) (v := f) hc 0 d_Mo_post_51 (by decide) (by omega) (by decide) rfl (by omega) (by decide) ?_
  refine fm_aload_n hc d_Mo_post_52 rfl rfl ?_
  refine fm_getR (k := 42) (q := 625) hc K_Mo d_Mo_post_53 q_927 rfl (by decide) (by omega) (by decide) (by decide) (by decide) rfl (rp_to hR) ?_
  refine fm_aload_n hc d_Mo_post_56 rfl rfl ?_
  refine fm_getI (k := 37) hc K_Mo d_Mo_post_57 q_922 rfl (by decide) (by omega) (by decide) (by decide) (by decide) rfl ?_
  refine fm_top (congrArg Value.int (show (fm_put1 (fm_put1 (fm_put1 (fm_put1 M 621 ln (nI 1)) 622 ln (nI a)) 623 ln v) 624 ln f).1 586 37 = nI ln from ((p1_other (by decide)).trans ((p1_other (by decide)).trans ((p1_other (by decide)).trans ((p1_other (by decide)).trans (hu))))))) ?_
  refine fm_iload hc d_Mo_post_60 rfl ?_
  refine fm_iast (j := ln) (len := 21) (v := t2) hc 0 d_Mo_post_62 (by decide) (by omega) (by decide) rfl (by omega) (by decide) ?_
  refine fm_aload_n hc d_Mo_post_63 rfl rfl ?_
  refine fm_getR (k := 43) (q := 626) hc K_Mo d_Mo_post_64 q_928 rfl (by decide) (by omega) (by decide) (by decide) (by decide) rfl (rp_long1 hR) ?_
  refine fm_aload_n hc d_Mo_post_67 rfl rfl ?_
  refine fm_getI (k := 37) hc K_Mo d_Mo_post_68 q_922 rfl (by decide) (by omega) (by decide) (by decide) (by decide) rfl ?_
  refine fm_top (congrArg Value.int (show (fm_put1 (fm_put1 (fm_put1 (fm_put1 (fm_put1 M 621 ln (nI 1)) 622 ln (nI a)) 623 ln v) 624 ln f) 625 ln t2).1 586 37 = nI ln from ((p1_other (by decide)).trans ((p1_other (by decide)).trans ((p1_other (by decide)).trans ((p1_other (by decide)).trans ((p1_other (by decide)).trans (hu)))))))) ?_
  refine fm_iconst (v := nI 0) hc d_Mo_post_71 rfl ?_
  refine fm_iast (j := ln) (len := 21) (v := nI 0) hc 0 d_Mo_post_72 (by decide) (by omega) (by decide) rfl (by omega) (by decide) ?_
  refine fm_aload_n hc d_Mo_post_73 rfl rfl ?_
  refine fm_dup hc d_Mo_post_74 rfl ?_
  refine fm_getI (k := 37) hc K_Mo d_Mo_post_75 q_922 rfl (by decide) (by omega) (by decide) (by decide) (by decide) rfl ?_
  refine fm_top (congrArg Value.int (show (fm_put1 (fm_put1 (fm_put1 (fm_put1 (fm_put1 (fm_put1 M 621 ln (nI 1)) 622 ln (nI a)) 623 ln v) 624 ln f) 625 ln t2) 626 ln (nI 0)).1 586 37 = nI ln from ((p1_other (by decide)).trans ((p1_other (by decide)).trans ((p1_other (by decide)).trans ((p1_other (by decide)).trans ((p1_other (by decide)).trans ((p1_other (by decide)).trans (hu))))))))) ?_
  refine fm_iconst (v := nI 1) hc d_Mo_post_78 rfl ?_
  refine fm_iadd hc d_Mo_post_79 ?_
  refine fm_top (congrArg Value.int (nI_add ln 1)) ?_
  refine fm_putI (k := 37) (v := nI (ln + 1)) hc K_Mo d_Mo_post_80 q_922 rfl (by decide) (by omega) (by decide) (by decide) (by decide) rfl rfl rfl rfl ?_
  refine fm_aload_n hc d_Mo_post_83 rfl rfl ?_
  refine fm_getI (k := 37) hc K_Mo d_Mo_post_84 q_922 rfl (by decide) (by omega) (by decide) (by decide) (by decide) rfl ?_
  refine fm_top (congrArg Value.int (show (fm_put1 (fm_put1 (fm_put1 (fm_put1 (fm_put1 (fm_put1 (fm_put1 M 621 ln (nI 1)) 622 ln (nI a)) 623 ln v) 624 ln f) 625 ln t2) 626 ln (nI 0)) 586 37 (nI (ln + 1))).1 586 37 = nI (ln + 1) from (p1_same _ _ _ _))) ?_
  refine fm_iconst (v := nI 1) hc d_Mo_post_87 rfl ?_
  refine fm_isub hc d_Mo_post_88 ?_
  refine fm_top (congrArg Value.int (pk_sub (a := ln + 1) (b := 1) (by omega))) ?_
  refine fm_top (congrArg Value.int (show nI ((ln + 1) - 1) = nI ln from (congrArg nI (Nat.add_sub_cancel ln 1)))) ?_
  exact fm_iret hc hr d_Mo_post_89 (Nat.le_refl _) (Nat.le_refl _) ⟨rfl, rfl, rfl⟩
theorem rc_postF1 {l : Launch} {b : Nat} {x : Nat → Nat} {D : va_G} {dA : Nat → ClassId} {a : Nat} {v f t2 : Int32} {n : Nat} {M : fm_M} (hn : 629 ≤ n) (hR : fm_RP M) (hu : M.1 586 37 = nI 20) : Met l y_Mo_post (Cond.code y_Mo_post b_Mo_post 6 (some .int) :: fm_T0) ({ frames := 0, cells := 0, slots := 0, locals := 0 }) (fm_Pc fm_lay fm_nf fm_fk fm_cl b x D dA (fm_tys dA) (fm_EX b x) false [.ref 586, .int (nI 1), .int (nI a), .int v, .int f, .int t2] n M) (fm_Qc fm_lay fm_nf fm_fk fm_cl b x D dA (fun r n' M' => r = some (.int (-1)) ∧ n' = n ∧ M' = M)) 0 0 (fm_A b) := by
  refine fm_enter (by decide) (Nat.le_of_ble_eq_true rfl) ?_
  intro p e s m args below meth c9 hc hr hnm hex htg
  refine fm_aload_n hc d_Mo_post_0 rfl rfl ?_
  refine fm_getI (k := 37) hc K_Mo d_Mo_post_1 q_922 rfl (by decide) (by omega) (by decide) (by decide) (by decide) rfl ?_
  refine fm_top (congrArg Value.int (show M.1 586 37 = nI 20 from hu)) ?_
  refine fm_bipush (v := nI 20) hc d_Mo_post_4 rfl ?_
  refine fm_icmp_ne (tgt := 11) hc d_Mo_post_6 rfl (fun g => absurd (by decide) g) (fun _ => ?_)
  refine fm_iconst (v := (-1)) hc d_Mo_post_9 rfl ?_
  exact fm_iret hc hr d_Mo_post_10 (Nat.le_refl _) (Nat.le_refl _) ⟨rfl, rfl, rfl⟩
theorem hrW_post1 {a : Nat} {v f t2 : Int32} {ms : List mg_T} {M : fm_M} (h : hr_W M ms) (hl : ms.length < 20) : hr_W (fm_put1 (fm_put1 (fm_put1 (fm_put1 (fm_put1 (fm_put1 (fm_put1 M 621 ms.length (nI 1)) 622 ms.length (nI a)) 623 ms.length v) 624 ms.length f) 625 ms.length t2) 626 ms.length (nI 0)) 586 37 (nI (ms.length + 1))) (ms ++ [(1, a, v, f, t2, [])]) := by
  refine ⟨by rw [List.length_append, p1_same]; rfl, by rw [List.length_append]; exact hl, fun k m hk => ?_⟩
  rcases ap_at hk with ⟨h1, h2⟩ | ⟨h1, h2⟩
  · refine hrWk_of (fun q c d => ?_) (fun i hi => ?_) (h.2.2 k m h2)
    · rw [p1_other (by omega), p1_k h1, p1_k h1, p1_k h1, p1_k h1, p1_k h1, p1_k h1]
    · simp [fm_put1, va_up]
  · subst h1 h2
    refine ⟨?_, ?_, ?_, ?_, ?_, ?_, Nat.zero_le _, fun i v hv => by simp at hv⟩ <;> simp [fm_put1, va_up]
theorem fvM_post1 {a ln : Nat} {v f t2 : Int32} {M : fm_M} : fv_M M (fm_put1 (fm_put1 (fm_put1 (fm_put1 (fm_put1 (fm_put1 (fm_put1 M 621 ln (nI 1)) 622 ln (nI a)) 623 ln v) 624 ln f) 625 ln t2) 626 ln (nI 0)) 586 37 (nI (ln + 1))) := ⟨rfl, fun q j c d _ _ => by
  by_cases g : q = 586
  · subst g
    rw [p1_at (by omega)]
    simp [fm_put1, va_up]
  · rw [p1_other g, p1_other (by omega), p1_other (by omega), p1_other (by omega), p1_other (by omega), p1_other (by omega), p1_other (by omega)]⟩
theorem rc_postR {l : Launch} {b : Nat} {x : Nat → Nat} {D : va_G} {dA : Nat → ClassId} {a n : Nat} {v f t2 : Int32} {ms : List mg_T} {M : fm_M} (hn : 629 ≤ n) (hR : fm_RP M) (h : hr_W M ms) : Met l y_Mo_post (Cond.code y_Mo_post b_Mo_post 6 (some .int) :: fm_T0) ({ frames := 0, cells := 0, slots := 0, locals := 0 }) (fm_Pc fm_lay fm_nf fm_fk fm_cl b x D dA (fm_tys dA) (fm_EX b x) false [.ref 586, .int (nI 1), .int (nI a), .int v, .int f, .int t2] n M) (fm_Qc fm_lay fm_nf fm_fk fm_cl b x D dA (fun r n' M' => r = some (.int (if ms.length < 20 then nI ms.length else -1)) ∧ n' = n ∧ hr_W M' (wi_send ms (1, a, v, f, t2, [])) ∧ fv_M M M')) 0 0 (fm_A b) := by
  unfold wi_send
  by_cases g : ms.length < 20
  · rw [if_pos g, if_pos g]
    exact fm_post (rc_post1 hn hR h.1 g) (fun r n' M' q => ⟨q.1, q.2.1, by rw [q.2.2]; exact hrW_post1 h g, by rw [q.2.2]; exact fvM_post1⟩)
  · rw [if_neg g, if_neg g]
    have e : ms.length = 20 := by have := h.2.1; omega
    exact fm_post (rc_postF1 hn hR (by rw [h.1, e])) (fun r n' M' q => ⟨q.1, q.2.1, by rw [q.2.2]; exact h, by rw [q.2.2]; exact fvM_rf M⟩)
theorem hrW_pack {a : Nat} {v f t2 : Int32} {ms : List mg_T} {bs : List Nat} {M M' : fm_M} (h : hr_W M (ms ++ [(0, a, v, f, t2, [])])) (hl : ms.length < 20) (hb : bs.length ≤ 121) (i1 : ∀ i v, bs[i]? = some v → M'.1 627 (128 * ms.length + i) = nI v) (i2 : M'.1 626 ms.length = nI bs.length) (i3 : ∀ q j, ¬ (q = 627 ∧ 128 * ms.length ≤ j ∧ j < 128 * ms.length + 128) → ¬ (q = 586 ∧ (j = 45 ∨ j = 32)) → q ≠ 617 → q ≠ 618 → ¬ (q = 626 ∧ j = ms.length) → M'.1 q j = M.1 q j) : hr_W M' (ms ++ [(0, a, v, f, t2, bs)]) := by
  refine ⟨?_, by rw [List.length_append]; exact hl, fun k m hk => ?_⟩
  · rw [i3 586 37 (by omega) (by omega) (by decide) (by decide) (by omega), h.1, List.length_append, List.length_append]; rfl
  rcases ap_at hk with ⟨h1, h2⟩ | ⟨h1, h2⟩
  · have hk' : k < ms.length := (List.getElem?_eq_some_iff.mp h2).1
    have h3 := h.2.2 k m (by rw [List.getElem?_append_left hk']; exact h2)
    exact hrWk_of (fun q c d => i3 q k (by omega) (by omega) (by omega) (by omega) (by omega)) (fun i hi => i3 627 _ (by omega) (by omega) (by omega) (by omega) (by omega)) h3
  · subst h1 h2
    obtain ⟨a1, a2, a3, a4, a5, -, -, -⟩ := h.2.2 ms.length (0, a, v, f, t2, []) (by rw [List.getElem?_append_right (Nat.le_refl _), Nat.sub_self]; rfl)
    have e : ∀ q, 621 ≤ q → q ≤ 625 → M'.1 q ms.length = M.1 q ms.length := fun q c d => i3 q _ (by omega) (by omega) (by omega) (by omega) (by omega)
    exact ⟨(e _ (by decide) (by decide)).trans a1, (e _ (by decide) (by decide)).trans a2, (e _ (by decide) (by decide)).trans a3, (e _ (by decide) (by decide)).trans a4, (e _ (by decide) (by decide)).trans a5, i2, hb, i1⟩
