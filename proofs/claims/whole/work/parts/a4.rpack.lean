/-! THE REFERENCE: say, sayValue -/
def im_R (M : fm_M) (kk : Nat) (bs : List Nat) : Prop := M.1 586 45 = nI (128 * kk + bs.length) ∧ ∀ i v, bs[i]? = some v → M.1 627 (128 * kk + i) = nI v
def fj_M (kk : Nat) (M M' : fm_M) : Prop := M'.2 = M.2 ∧ ∀ q j, ¬ (q = 627 ∧ 128 * kk ≤ j ∧ j < 128 * kk + 128) → ¬ (q = 586 ∧ j = 45) → M'.1 q j = M.1 q j
theorem fjM_rf (kk : Nat) (M : fm_M) : fj_M kk M M := ⟨rfl, fun _ _ _ _ => rfl⟩
theorem fjM_tr {kk : Nat} {M M1 M2 : fm_M} (h : fj_M kk M M1) (g : fj_M kk M1 M2) : fj_M kk M M2 := ⟨g.1.trans h.1, fun q j a c => (g.2 q j a c).trans (h.2 q j a c)⟩
theorem fjM_RP {kk : Nat} {M M' : fm_M} (h : fj_M kk M M') (g : fm_RP M) : fm_RP M' := fun q hq => by rw [h.1]; exact g q hq
theorem fjM_rk {kk : Nat} {M M' : fm_M} {ord : List Nat} (h : fj_M kk M M') (g : rk_H M ord) : rk_H M' ord := ⟨(h.2 _ _ (by omega) (by omega)).trans g.1, fun i q hq => (h.2 _ _ (by omega) (by omega)).trans (g.2.1 i q hq), fun q hq => (h.2 _ _ (by omega) (by omega)).trans (g.2.2 q hq)⟩
theorem fjM_hr {kk r : Nat} {M M' : fm_M} {F : Nat → Prop} {A : ag_T} {g : Nat → Nat} (h : fj_M kk M M') (hg : hr_G M r F A g) : hr_G M' r F A g := by
  obtain ⟨h1, h2, h3, h4, h5, h6⟩ := hg
  refine ⟨fun k a b c => (h.2 _ _ (by omega) (by omega)).trans (h1 k a b c), (h.2 _ _ (by omega) (by omega)).trans h2, h3, h4, ?_, ?_⟩
  · rw [h.1]; exact h5
  · rw [h.1]; exact h6
theorem rc_say0 {l : Launch} {b : Nat} {x : Nat → Nat} {D : va_G} {dA : Nat → ClassId} {kk ln : Nat} {u : Int32} {n : Nat} {M : fm_M} (hn : 629 ≤ n) (hR : fm_RP M) (hk : kk < 21) (hd : M.1 586 45 = nI (128 * kk + ln)) (h128 : ln < 128) : Met l y_Mo_say (Cond.code y_Mo_say b_Mo_say 2 none :: fm_T0) ({ frames := 0, cells := 0, slots := 0, locals := 0 }) (fm_Pc fm_lay fm_nf fm_fk fm_cl b x D dA (fm_tys dA) (fm_EX b x) false [.ref 586, .int u] n M) (fm_Qc fm_lay fm_nf fm_fk fm_cl b x D dA (fun r n' M' => r = none ∧ n' = n ∧ M' = fm_put1 (fm_put1 M 627 (128 * kk + ln) (u &&& nI 255)) 586 45 (nI (128 * kk + ln + 1)))) 0 0 (fm_A b) := by
  refine fm_enter (by decide) (Nat.le_of_ble_eq_true rfl) ?_
  intro p e s m args below meth c9 hc hr hnm hex htg
  refine fm_aload_n hc d_Mo_say_0 rfl rfl ?_
  refine fm_getR (k := 44) (q := 627) hc K_Mo d_Mo_say_1 q_929 rfl (by decide) (by omega) (by decide) (by decide) (by decide) rfl (rp_image hR) ?_
  refine fm_aload_n hc d_Mo_say_4 rfl rfl ?_
  refine fm_getI (k := 45) hc K_Mo d_Mo_say_5 q_930 rfl (by decide) (by omega) (by decide) (by decide) (by decide) rfl ?_
  refine fm_top (congrArg Value.int hd) ?_
  refine fm_iload_n hc d_Mo_say_8 rfl rfl ?_
  refine fm_sipush (v := nI 255) hc d_Mo_say_9 rfl ?_
  refine fm_iand hc d_Mo_say_12 ?_
  refine fm_iast (j := 128 * kk + ln) (len := 2688) (v := u &&& (nI 255)) hc 0 d_Mo_say_13 (by decide) (by omega) (by decide) rfl (by omega) (by decide) ?_
  refine fm_aload_n hc d_Mo_say_14 rfl rfl ?_
  refine fm_dup hc d_Mo_say_15 rfl ?_
  refine fm_getI (k := 45) hc K_Mo d_Mo_say_16 q_930 rfl (by decide) (by omega) (by decide) (by decide) (by decide) rfl ?_
  refine fm_top (congrArg Value.int ((p1_other (by decide)).trans hd)) ?_
  refine fm_iconst (v := nI 1) hc d_Mo_say_19 rfl ?_
  refine fm_iadd hc d_Mo_say_20 ?_
  refine fm_top (congrArg Value.int (nI_add (128 * kk + ln) 1)) ?_
  refine fm_putI (k := 45) (v := nI ((128 * kk + ln) + 1)) hc K_Mo d_Mo_say_21 q_930 rfl (by decide) (by omega) (by decide) (by decide) (by decide) rfl rfl rfl rfl ?_
  exact fm_vret hc hr d_Mo_say_24 (Nat.le_refl _) (Nat.le_refl _) ⟨rfl, rfl, rfl⟩
theorem rc_sayB {l : Launch} {b : Nat} {x : Nat → Nat} {D : va_G} {dA : Nat → ClassId} {kk v n : Nat} {u : Int32} {bs : List Nat} {M : fm_M} (hn : 629 ≤ n) (hR : fm_RP M) (hk : kk < 21) (hu : u &&& nI 255 = nI v) (h : im_R M kk bs) (h128 : bs.length < 128) : Met l y_Mo_say (Cond.code y_Mo_say b_Mo_say 2 none :: fm_T0) ({ frames := 0, cells := 0, slots := 0, locals := 0 }) (fm_Pc fm_lay fm_nf fm_fk fm_cl b x D dA (fm_tys dA) (fm_EX b x) false [.ref 586, .int u] n M) (fm_Qc fm_lay fm_nf fm_fk fm_cl b x D dA (fun r n' M' => r = none ∧ n' = n ∧ im_R M' kk (bs ++ [v]) ∧ fj_M kk M M')) 0 0 (fm_A b) := by
  refine fm_post (rc_say0 hn hR hk h.1 h128) (fun r n' M' q => ⟨q.1, q.2.1, ?_, ?_⟩)
  · rw [q.2.2]
    refine ⟨by rw [p1_same, List.length_append]; rfl, fun i w hw => ?_⟩
    rw [p1_other (by decide), hu]
    rcases ap_at hw with ⟨g, h1⟩ | ⟨g, h1⟩
    · rw [p1_at (by omega)]; exact h.2 i w h1
    · rw [g, p1_same, h1]
  · rw [q.2.2]
    refine ⟨rfl, fun q j a c => ?_⟩
    by_cases g : q = 586
    · subst g
      rw [p1_at (fun e => c ⟨rfl, e⟩), p1_other (by decide)]
    · rw [p1_other g]
      by_cases g2 : q = 627
      · subst g2
        rw [p1_at (by omega)]
      · rw [p1_other g2]
theorem rc_sayV1 {l : Launch} {b : Nat} {x : Nat → Nat} {D : va_G} {dA : Nat → ClassId} {kk n : Nat} {y : Int32} {bs : List Nat} {M : fm_M} (hn : 629 ≤ n) (hR : fm_RP M) (hk : kk < 21) (h : im_R M kk bs) (h128 : bs.length + 5 ≤ 128) : Met l y_Mo_sayValue (Cond.code y_Mo_sayValue b_Mo_sayValue 4 none :: fm_T0) ({ frames := 1, cells := 0, slots := 0, locals := 30 }) (fm_Pc fm_lay fm_nf fm_fk fm_cl b x D dA (fm_tys dA) (fm_EX b x) false [.ref 586, .long y.toInt64] n M) (fm_Qc fm_lay fm_nf fm_fk fm_cl b x D dA (fun r n' M' => r = none ∧ n' = n ∧ im_R M' kk (bs ++ im_V (.inl y)) ∧ fj_M kk M M')) 0 0 (fm_A b) := by
  refine fm_enter (by decide) (Nat.le_of_ble_eq_true rfl) ?_
  intro p e s m args below meth c9 hc hr hnm hex htg
  refine fm_lload_n hc d_Mo_sayValue_0 rfl rfl ?_
  refine fm_ldc2 (v := 1099511627776) hc d_Mo_sayValue_1 q_1098 ?_
  refine fm_lcmp hc d_Mo_sayValue_4 ?_
  refine fm_if_lt (tgt := 27) hc d_Mo_sayValue_5 rfl (fun _ => ?_) (fun g => absurd ((lg_cmp_lt _ _).mpr (vx_int y)) g)
  refine fm_aload_n hc d_Mo_sayValue_27 rfl rfl ?_
  refine fm_iconst (v := nI 0) hc d_Mo_sayValue_28 rfl ?_
  refine fm_callV (av := [.int (nI 0)]) (rest := []) (ob := 586) (ci := 11) (r0 := ("AgentNetModel", F_Mo, 51)) (y := y_Mo_say) (bytes := b_Mo_say) hc fm_T0_good (fm_EX_st b x) hex q_1186 q_13 q_1183 q_1185 qs_Mo_say pd_Mo_say (by decide) (by omega) (by decide) (by decide) rfl rfl (rc_sayB (v := 0) hn hR hk rfl h (by first | omega | (simp only [List.length_append, List.length_cons, List.length_nil]; omega))) ⟨rfl, rfl, Nat.le_of_ble_eq_true rfl, Nat.le_of_ble_eq_true rfl⟩ ⟨Nat.le_of_ble_eq_true rfl, Nat.le_of_ble_eq_true rfl⟩ d_Mo_sayValue_29 (Nat.le_of_ble_eq_true rfl) (fun r n2 M2 hp => ?_)
  obtain ⟨rfl, hq1, iP1, fP1⟩ := hp
  replace hq1 := hq1.symm
  subst hq1
  revert iP1 fP1
  generalize M2 = P1
  intro iP1 fP1
  have hRP1 := fjM_RP fP1 hR
  refine fm_cnt (z' := (0, 0)) rfl (fm_st (st' := []) rfl ?_)
  refine fm_bipush (v := nI 24) hc d_Mo_sayValue_32 rfl ?_
  refine fm_istore_n (lv' := [(3, .int (nI 24)), (0, .ref 586), (1, .long y.toInt64)]) hc d_Mo_sayValue_34 rfl (by decide) rfl ?_
  refine fm_iload_n hc d_Mo_sayValue_35 rfl rfl ?_
  refine fm_if_lt (tgt := 53) hc d_Mo_sayValue_36 rfl (fun g => absurd g (by decide)) (fun _ => ?_)
  refine fm_aload_n hc d_Mo_sayValue_39 rfl rfl ?_
  refine fm_lload_n hc d_Mo_sayValue_40 rfl rfl ?_
  refine fm_iload_n hc d_Mo_sayValue_41 rfl rfl ?_
  refine fm_lshr hc d_Mo_sayValue_42 ?_
  refine fm_l2i hc d_Mo_sayValue_43 ?_
  refine fm_callV (av := [.int ((y.toInt64 >>> ((nI 24).toInt64 &&& 63)).toInt32)]) (rest := []) (ob := 586) (ci := 11) (r0 := ("AgentNetModel", F_Mo, 51)) (y := y_Mo_say) (bytes := b_Mo_say) hc fm_T0_good (fm_EX_st b x) hex q_1186 q_13 q_1183 q_1185 qs_Mo_say pd_Mo_say (by decide) (by omega) (by decide) (by decide) rfl rfl (rc_sayB (v := by8 24 y) hn hRP1 hk (by8_r24 y) iP1 (by first | omega | (simp only [List.length_append, List.length_cons, List.length_nil]; omega))) ⟨rfl, rfl, Nat.le_of_ble_eq_true rfl, Nat.le_of_ble_eq_true rfl⟩ ⟨Nat.le_of_ble_eq_true rfl, Nat.le_of_ble_eq_true rfl⟩ d_Mo_sayValue_44 (Nat.le_of_ble_eq_true rfl) (fun r n2 M2 hp => ?_)
  obtain ⟨rfl, hq1, iP2, fP2⟩ := hp
  replace hq1 := hq1.symm
  subst hq1
  revert iP2 fP2
  generalize M2 = P2
  intro iP2 fP2
  have hRP2 := fjM_RP fP2 hRP1
  refine fm_cnt (z' := (0, 0)) rfl (fm_st (st' := []) rfl ?_)
  refine fm_iinc (v := nI 16) (lv' := [(3, .int (nI 16)), (0, .ref 586), (1, .long y.toInt64)]) hc d_Mo_sayValue_47 rfl (by decide) (by decide) rfl ?_
  refine fm_goto (tgt := 35) hc d_Mo_sayValue_50 rfl ?_
  refine fm_iload_n hc d_Mo_sayValue_35 rfl rfl ?_
  refine fm_if_lt (tgt := 53) hc d_Mo_sayValue_36 rfl (fun g => absurd g (by decide)) (fun _ => ?_)
  refine fm_aload_n hc d_Mo_sayValue_39 rfl rfl ?_
  refine fm_lload_n hc d_Mo_sayValue_40 rfl rfl ?_
  refine fm_iload_n hc d_Mo_sayValue_41 rfl rfl ?_
  refine fm_lshr hc d_Mo_sayValue_42 ?_
  refine fm_l2i hc d_Mo_sayValue_43 ?_
  refine fm_callV (av := [.int ((y.toInt64 >>> ((nI 16).toInt64 &&& 63)).toInt32)]) (rest := []) (ob := 586) (ci := 11) (r0 := ("AgentNetModel", F_Mo, 51)) (y := y_Mo_say) (bytes := b_Mo_say) hc fm_T0_good (fm_EX_st b x) hex q_1186 q_13 q_1183 q_1185 qs_Mo_say pd_Mo_say (by decide) (by omega) (by decide) (by decide) rfl rfl (rc_sayB (v := by8 16 y) hn hRP2 hk (by8_r16 y) iP2 (by first | omega | (simp only [List.length_append, List.length_cons, List.length_nil]; omega))) ⟨rfl, rfl, Nat.le_of_ble_eq_true rfl, Nat.le_of_ble_eq_true rfl⟩ ⟨Nat.le_of_ble_eq_true rfl, Nat.le_of_ble_eq_true rfl⟩ d_Mo_sayValue_44 (Nat.le_of_ble_eq_true rfl) (fun r n2 M2 hp => ?_)
  obtain ⟨rfl, hq1, iP3, fP3⟩ := hp
  replace hq1 := hq1.symm
  subst hq1
  revert iP3 fP3
  generalize M2 = P3
  intro iP3 fP3
  have hRP3 := fjM_RP fP3 hRP2
  refine fm_cnt (z' := (0, 0)) rfl (fm_st (st' := []) rfl ?_)
  refine fm_iinc (v := nI 8) (lv' := [(3, .int (nI 8)), (0, .ref 586), (1, .long y.toInt64)]) hc d_Mo_sayValue_47 rfl (by decide) (by decide) rfl ?_
  refine fm_goto (tgt := 35) hc d_Mo_sayValue_50 rfl ?_
  refine fm_iload_n hc d_Mo_sayValue_35 rfl rfl ?_
  refine fm_if_lt (tgt := 53) hc d_Mo_sayValue_36 rfl (fun g => absurd g (by decide)) (fun _ => ?_)
  refine fm_aload_n hc d_Mo_sayValue_39 rfl rfl ?_
  refine fm_lload_n hc d_Mo_sayValue_40 rfl rfl ?_
  refine fm_iload_n hc d_Mo_sayValue_41 rfl rfl ?_
  refine fm_lshr hc d_Mo_sayValue_42 ?_
  refine fm_l2i hc d_Mo_sayValue_43 ?_
  refine fm_callV (av := [.int ((y.toInt64 >>> ((nI 8).toInt64 &&& 63)).toInt32)]) (rest := []) (ob := 586) (ci := 11) (r0 := ("AgentNetModel", F_Mo, 51)) (y := y_Mo_say) (bytes := b_Mo_say) hc fm_T0_good (fm_EX_st b x) hex q_1186 q_13 q_1183 q_1185 qs_Mo_say pd_Mo_say (by decide) (by omega) (by decide) (by decide) rfl rfl (rc_sayB (v := by8 8 y) hn hRP3 hk (by8_r8 y) iP3 (by first | omega | (simp only [List.length_append, List.length_cons, List.length_nil]; omega))) ⟨rfl, rfl, Nat.le_of_ble_eq_true rfl, Nat.le_of_ble_eq_true rfl⟩ ⟨Nat.le_of_ble_eq_true rfl, Nat.le_of_ble_eq_true rfl⟩ d_Mo_sayValue_44 (Nat.le_of_ble_eq_true rfl) (fun r n2 M2 hp => ?_)
  obtain ⟨rfl, hq1, iP4, fP4⟩ := hp
  replace hq1 := hq1.symm
  subst hq1
  revert iP4 fP4
  generalize M2 = P4
  intro iP4 fP4
  have hRP4 := fjM_RP fP4 hRP3
  refine fm_cnt (z' := (0, 0)) rfl (fm_st (st' := []) rfl ?_)
  refine fm_iinc (v := nI 0) (lv' := [(3, .int (nI 0)), (0, .ref 586), (1, .long y.toInt64)]) hc d_Mo_sayValue_47 rfl (by decide) (by decide) rfl ?_
  refine fm_goto (tgt := 35) hc d_Mo_sayValue_50 rfl ?_
  refine fm_iload_n hc d_Mo_sayValue_35 rfl rfl ?_
  refine fm_if_lt (tgt := 53) hc d_Mo_sayValue_36 rfl (fun g => absurd g (by decide)) (fun _ => ?_)
  refine fm_aload_n hc d_Mo_sayValue_39 rfl rfl ?_
  refine fm_lload_n hc d_Mo_sayValue_40 rfl rfl ?_
  refine fm_iload_n hc d_Mo_sayValue_41 rfl rfl ?_
  refine fm_lshr hc d_Mo_sayValue_42 ?_
  refine fm_l2i hc d_Mo_sayValue_43 ?_
  refine fm_callV (av := [.int ((y.toInt64 >>> ((nI 0).toInt64 &&& 63)).toInt32)]) (rest := []) (ob := 586) (ci := 11) (r0 := ("AgentNetModel", F_Mo, 51)) (y := y_Mo_say) (bytes := b_Mo_say) hc fm_T0_good (fm_EX_st b x) hex q_1186 q_13 q_1183 q_1185 qs_Mo_say pd_Mo_say (by decide) (by omega) (by decide) (by decide) rfl rfl (rc_sayB (v := by8 0 y) hn hRP4 hk (by8_r0 y) iP4 (by first | omega | (simp only [List.length_append, List.length_cons, List.length_nil]; omega))) ⟨rfl, rfl, Nat.le_of_ble_eq_true rfl, Nat.le_of_ble_eq_true rfl⟩ ⟨Nat.le_of_ble_eq_true rfl, Nat.le_of_ble_eq_true rfl⟩ d_Mo_sayValue_44 (Nat.le_of_ble_eq_true rfl) (fun r n2 M2 hp => ?_)
  obtain ⟨rfl, hq1, iP5, fP5⟩ := hp
  replace hq1 := hq1.symm
  subst hq1
  revert iP5 fP5
  generalize M2 = P5
  intro iP5 fP5
  have hRP5 := fjM_RP fP5 hRP4
  refine fm_cnt (z' := (0, 0)) rfl (fm_st (st' := []) rfl ?_)
  refine fm_iinc (v := (-8)) (lv' := [(3, .int ((-8))), (0, .ref 586), (1, .long y.toInt64)]) hc d_Mo_sayValue_47 rfl (by decide) (by decide) rfl ?_
  refine fm_goto (tgt := 35) hc d_Mo_sayValue_50 rfl ?_
  refine fm_iload_n hc d_Mo_sayValue_35 rfl rfl ?_
  refine fm_if_lt (tgt := 53) hc d_Mo_sayValue_36 rfl (fun _ => ?_) (fun g => absurd (by decide) g)
  exact fm_vret hc hr d_Mo_sayValue_53 (Nat.le_refl _) (Nat.le_refl _) ⟨rfl, rfl, by simpa [im_V] using iP5, (fjM_tr (fjM_tr (fjM_tr (fjM_tr fP1 fP2) fP3) fP4) fP5)⟩
theorem rc_sayV2 {l : Launch} {b : Nat} {x : Nat → Nat} {D : va_G} {dA : Nat → ClassId} {kk c rr n : Nat} {bs : List Nat} {M : fm_M} (hn : 629 ≤ n) (hR : fm_RP M) (hk : kk < 21) (h : im_R M kk bs) (h128 : bs.length + 5 ≤ 128) (hc16 : c < 9) (hr : M.1 618 c = nI rr) (hr9 : rr < 256) : Met l y_Mo_sayValue (Cond.code y_Mo_sayValue b_Mo_sayValue 4 none :: fm_T0) ({ frames := 1, cells := 0, slots := 0, locals := 30 }) (fm_Pc fm_lay fm_nf fm_fk fm_cl b x D dA (fm_tys dA) (fm_EX b x) false [.ref 586, .long (1099511627776 + (nI c).toInt64)] n M) (fm_Qc fm_lay fm_nf fm_fk fm_cl b x D dA (fun r n' M' => r = none ∧ n' = n ∧ im_R M' kk (bs ++ im_V (.inr rr)) ∧ fj_M kk M M')) 0 0 (fm_A b) := by
  refine fm_enter (by decide) (Nat.le_of_ble_eq_true rfl) ?_
  intro p e s m args below meth c9 hc hr0 hnm hex htg
  refine fm_lload_n hc d_Mo_sayValue_0 rfl rfl ?_
  refine fm_ldc2 (v := 1099511627776) hc d_Mo_sayValue_1 q_1098 ?_
  refine fm_lcmp hc d_Mo_sayValue_4 ?_
  refine fm_if_lt (tgt := 27) hc d_Mo_sayValue_5 rfl (fun g => absurd g (fun q => vx_pair c (by omega) ((lg_cmp_lt _ _).mp q))) (fun _ => ?_)
  refine fm_aload_n hc d_Mo_sayValue_8 rfl rfl ?_
  refine fm_iconst (v := nI 1) hc d_Mo_sayValue_9 rfl ?_
  refine fm_callV (av := [.int (nI 1)]) (rest := []) (ob := 586) (ci := 11) (r0 := ("AgentNetModel", F_Mo, 51)) (y := y_Mo_say) (bytes := b_Mo_say) hc fm_T0_good (fm_EX_st b x) hex q_1186 q_13 q_1183 q_1185 qs_Mo_say pd_Mo_say (by decide) (by omega) (by decide) (by decide) rfl rfl (rc_sayB (v := 1) hn hR hk rfl h (by first | omega | (simp only [List.length_append, List.length_cons, List.length_nil]; omega))) ⟨rfl, rfl, Nat.le_of_ble_eq_true rfl, Nat.le_of_ble_eq_true rfl⟩ ⟨Nat.le_of_ble_eq_true rfl, Nat.le_of_ble_eq_true rfl⟩ d_Mo_sayValue_10 (Nat.le_of_ble_eq_true rfl) (fun r n2 M2 hp => ?_)
  obtain ⟨rfl, hq1, iP6, fP6⟩ := hp
  replace hq1 := hq1.symm
  subst hq1
  revert iP6 fP6
  generalize M2 = P6
  intro iP6 fP6
  have hRP6 := fjM_RP fP6 hR
  refine fm_cnt (z' := (0, 0)) rfl (fm_st (st' := []) rfl ?_)
  refine fm_aload_n hc d_Mo_sayValue_13 rfl rfl ?_
  refine fm_aload_n hc d_Mo_sayValue_14 rfl rfl ?_
  refine fm_getR (k := 34) (q := 618) hc K_Mo d_Mo_sayValue_15 q_919 rfl (by decide) (by omega) (by decide) (by decide) (by decide) rfl (rp_rank hRP6) ?_
  refine fm_lload_n hc d_Mo_sayValue_18 rfl rfl ?_
  refine fm_callS (av := [.long (1099511627776 + (nI c).toInt64)]) (rest := [.ref 618, .ref 586]) (y := y_Mo_pairOf) (bytes := b_Mo_pairOf) hc fm_T0_good (fm_EX_st b x) hex q_1113 q_13 q_1111 q_1112 pd_Mo_pairOf (rc_pairOf (by omega)) ⟨rfl, rfl, Nat.le_of_ble_eq_true rfl, Nat.le_of_ble_eq_true rfl⟩ ⟨Nat.le_of_ble_eq_true rfl, Nat.le_of_ble_eq_true rfl⟩ d_Mo_sayValue_19 (Nat.le_of_ble_eq_true rfl) (fun r n2 M2 hp => ?_)
  obtain ⟨rfl, hq1, hq2⟩ := hp
  replace hq1 := hq1.symm
  replace hq2 := hq2.symm
  subst hq1 hq2
  refine fm_cnt (z' := (0, 0)) rfl (fm_st (st' := [.int (nI c), .ref 618, .ref 586]) rfl ?_)
  refine fm_iald (j := c) (len := 9) hc 0 d_Mo_sayValue_22 (by decide) (by omega) (by decide) rfl (by omega) (by decide) ?_
  refine fm_top (congrArg Value.int ((fP6.2 _ _ (by omega) (by omega)).trans hr)) ?_
  refine fm_callV (av := [.int (nI rr)]) (rest := []) (ob := 586) (ci := 11) (r0 := ("AgentNetModel", F_Mo, 51)) (y := y_Mo_say) (bytes := b_Mo_say) hc fm_T0_good (fm_EX_st b x) hex q_1186 q_13 q_1183 q_1185 qs_Mo_say pd_Mo_say (by decide) (by omega) (by decide) (by decide) rfl rfl (rc_sayB (v := rr) hn hRP6 hk (n_255 rr hr9) iP6 (by first | omega | (simp only [List.length_append, List.length_cons, List.length_nil]; omega))) ⟨rfl, rfl, Nat.le_of_ble_eq_true rfl, Nat.le_of_ble_eq_true rfl⟩ ⟨Nat.le_of_ble_eq_true rfl, Nat.le_of_ble_eq_true rfl⟩ d_Mo_sayValue_23 (Nat.le_of_ble_eq_true rfl) (fun r n2 M2 hp => ?_)
  obtain ⟨rfl, hq1, iP7, fP7⟩ := hp
  replace hq1 := hq1.symm
  subst hq1
  revert iP7 fP7
  generalize M2 = P7
  intro iP7 fP7
  have hRP7 := fjM_RP fP7 hRP6
  refine fm_cnt (z' := (0, 0)) rfl (fm_st (st' := []) rfl ?_)
  exact fm_vret hc hr0 d_Mo_sayValue_26 (Nat.le_refl _) (Nat.le_refl _) ⟨rfl, rfl, by simpa [im_V] using iP7, (fjM_tr fP6 fP7)⟩
theorem rc_sayV {l : Launch} {b : Nat} {x : Nat → Nat} {D : va_G} {dA : Nat → ClassId} {kk n : Nat} {u : bf_V} {ord bs : List Nat} {M : fm_M} (hn : 629 ≤ n) (hR : fm_RP M) (hk : kk < 21) (h : im_R M kk bs) (h128 : bs.length + 5 ≤ 128) (hH : rk_H M ord) (hu : bf_in (fun c => c ∈ ord ∧ c < 9) u) (ho : ord.length ≤ 9) : Met l y_Mo_sayValue (Cond.code y_Mo_sayValue b_Mo_sayValue 4 none :: fm_T0) ({ frames := 1, cells := 0, slots := 0, locals := 30 }) (fm_Pc fm_lay fm_nf fm_fk fm_cl b x D dA (fm_tys dA) (fm_EX b x) false [.ref 586, .long (e64 u)] n M) (fm_Qc fm_lay fm_nf fm_fk fm_cl b x D dA (fun r n' M' => r = none ∧ n' = n ∧ im_R M' kk (bs ++ im_V (bf_ren ord u)) ∧ fj_M kk M M')) 0 0 (fm_A b) := by
  cases u with
  | inl y => exact rc_sayV1 hn hR hk h h128
  | inr c =>
    have hc : c ∈ ord ∧ c < 9 := hu
    have hi := List.idxOf_lt_length_of_mem hc.1
    have e := hH.2.2 c hc.2
    rw [if_pos hc.1] at e
    exact rc_sayV2 hn hR hk h h128 hc.2 e (show ord.idxOf c < 256 by omega)
/-- a canonical agent: its pairs lie in the order in which they are met -/
theorem pk_facts {r : Nat} {F : Nat → Prop} {A : ag_T} {g : Nat → Nat} {M : fm_M} (ok : ag_ok A) (hcan : ag_can A = A) (h : hr_G M r F A g) : (bf_seq (ag_fn A.2.2) (A.2.1.foldl bf_see []) 9).length = A.2.2.length ∧ (∀ (k : Nat) (v : bf_V), A.2.1[k]? = some v → bf_in (fun c => c ∈ (bf_seq (ag_fn A.2.2) (A.2.1.foldl bf_see []) 9).map g ∧ c < 9) (bf_map g v) ∧ bf_ren ((bf_seq (ag_fn A.2.2) (A.2.1.foldl bf_see []) 9).map g) (bf_map g v) = v) ∧ (∀ (i : Nat) (q : bf_V × bf_V), A.2.2[i]? = some q → ∃ c u1 u2, ((bf_seq (ag_fn A.2.2) (A.2.1.foldl bf_see []) 9).map g)[i]? = some c ∧ c < 9 ∧ M.2.1 615 (9 * r + c) = e64 u1 ∧ M.2.1 616 (9 * r + c) = e64 u2 ∧ bf_in (fun c => c ∈ (bf_seq (ag_fn A.2.2) (A.2.1.foldl bf_see []) 9).map g ∧ c < 9) u1 ∧ bf_in (fun c => c ∈ (bf_seq (ag_fn A.2.2) (A.2.1.foldl bf_see []) 9).map g ∧ c < 9) u2 ∧ bf_ren ((bf_seq (ag_fn A.2.2) (A.2.1.foldl bf_see []) 9).map g) u1 = q.1 ∧ bf_ren ((bf_seq (ag_fn A.2.2) (A.2.1.foldl bf_see []) 9).map g) u2 = q.2) := by
  obtain ⟨o1, o2, o3, o4⟩ := ord_facts ok
  obtain ⟨h1, h2, h3, h4, h5, h6⟩ := h
  rw [ord_seq] at o1 o2 o3 o4
  have eS : A.2.1.map (bf_ren (bf_seq (ag_fn A.2.2) (A.2.1.foldl bf_see []) 9)) = A.2.1 := by
    have e : (ag_can A).2.1 = A.2.1 := by rw [hcan]
    have e2 : (ag_can A).2.1 = A.2.1.map (bf_ren (bf_ord (ag_fn A.2.2) 9 A.2.1)) := rfl
    rw [ord_seq] at e2
    exact e2.symm.trans e
  have eP : (bf_seq (ag_fn A.2.2) (A.2.1.foldl bf_see []) 9).map (fun q => (bf_ren (bf_seq (ag_fn A.2.2) (A.2.1.foldl bf_see []) 9) (ag_fn A.2.2 q).1, bf_ren (bf_seq (ag_fn A.2.2) (A.2.1.foldl bf_see []) 9) (ag_fn A.2.2 q).2)) = A.2.2 := by
    have e : (ag_can A).2.2 = A.2.2 := by rw [hcan]
    have e2 : (ag_can A).2.2 = (bf_ord (ag_fn A.2.2) 9 A.2.1).map (fun q => (bf_ren (bf_ord (ag_fn A.2.2) 9 A.2.1) (ag_fn A.2.2 q).1, bf_ren (bf_ord (ag_fn A.2.2) 9 A.2.1) (ag_fn A.2.2 q).2)) := rfl
    rw [ord_seq] at e2
    exact e2.symm.trans e
  have eL : (bf_seq (ag_fn A.2.2) (A.2.1.foldl bf_see []) 9).length = A.2.2.length := by
    have e := congrArg List.length eP
    rw [List.length_map] at e
    exact e
  generalize bf_seq (ag_fn A.2.2) (A.2.1.foldl bf_see []) 9 = ORD at o1 o2 o3 o4 eS eP eL ⊢
  have key : ∀ v, bf_in (fun k => k ∈ ORD) v → bf_in (fun c => c ∈ ORD.map g ∧ c < 9) (bf_map g v) ∧ bf_ren (ORD.map g) (bf_map g v) = bf_ren ORD v := by
    intro v hv
    refine ⟨?_, bf_ren_map h4 o2 (in_mono (fun k hk => o2 k hk) hv)⟩
    cases v with
    | inl y => trivial
    | inr k => exact ⟨List.mem_map.mpr ⟨k, hv, rfl⟩, h3 k (o2 k hv)⟩
  refine ⟨eL, fun k v hv => ?_, fun i q hq => ?_⟩
  · obtain ⟨a1, a2⟩ := key v (o3 v (List.mem_of_getElem? hv))
    refine ⟨a1, a2.trans ?_⟩
    have e : (A.2.1.map (bf_ren ORD))[k]? = some (bf_ren ORD v) := by rw [List.getElem?_map, hv]; rfl
    rw [eS, hv] at e
    exact (Option.some.inj e).symm
  · have hi : i < ORD.length := by rw [eL]; exact (List.getElem?_eq_some_iff.mp hq).1
    have eo : ORD[i]? = some ORD[i] := List.getElem?_eq_getElem hi
    have hm := List.mem_of_getElem? eo
    have hlt := o2 _ hm
    obtain ⟨m1, m2⟩ := o4 _ hm
    obtain ⟨a1, a2⟩ := key _ m1
    obtain ⟨b1, b2⟩ := key _ m2
    have hg := h6 _ _ (fn_get hlt)
    have e : (ORD.map (fun q => (bf_ren ORD (ag_fn A.2.2 q).1, bf_ren ORD (ag_fn A.2.2 q).2)))[i]? = some (bf_ren ORD (ag_fn A.2.2 ORD[i]).1, bf_ren ORD (ag_fn A.2.2 ORD[i]).2) := by rw [List.getElem?_map, eo]; rfl
    rw [eP, hq] at e
    have e := Option.some.inj e
    refine ⟨g ORD[i], _, _, by rw [List.getElem?_map, eo]; rfl, h3 _ hlt, hg.1, hg.2, a1, b1, ?_, ?_⟩
    · rw [a2, e]
    · rw [b2, e]
theorem rc_pack {l : Launch} {b : Nat} {x : Nat → Nat} {D : va_G} {dA : Nat → ClassId} {gi kk a n : Nat} {A : ag_T} {g : Nat → Nat} {M : fm_M} (hn : 629 ≤ n) (hR : fm_RP M) (hk : kk < 21) (hg9 : gi < 96) (ha8 : a < 8) (hga : gi % 8 = a) (h : hr_G M gi F_m A g) (hw : ag_wf a A) : Met l y_Mo_pack (Cond.code y_Mo_pack b_Mo_pack 5 none :: fm_T0) ({ frames := 3, cells := 0, slots := 0, locals := 90 }) (fm_Pc fm_lay fm_nf fm_fk fm_cl b x D dA (fm_tys dA) (fm_EX b x) false [.ref 586, .int (nI gi), .int (nI kk)] n M) (fm_Qc fm_lay fm_nf fm_fk fm_cl b x D dA (fun r n' M' => r = none ∧ n' = n ∧ (∀ i v, (im_B A)[i]? = some v → M'.1 627 (128 * kk + i) = nI v) ∧ M'.1 626 kk = nI (im_B A).length ∧ M'.2 = M.2 ∧ ∀ q j, ¬ (q = 627 ∧ 128 * kk ≤ j ∧ j < 128 * kk + 128) → ¬ (q = 586 ∧ (j = 45 ∨ j = 32)) → q ≠ 617 → q ≠ 618 → ¬ (q = 626 ∧ j = kk) → M'.1 q j = M.1 q j)) 0 0 (fm_A b) := by
  refine fm_enter (by decide) (Nat.le_of_ble_eq_true rfl) ?_
  intro p e s m args below meth c9 hc hr hnm hex htg
  have ok := hw.1
  have ok1 := ok.1
  have ok2 := ok.2.1
  have w0 : A.1 0 = a := hw.2.2.1
  have w1 : A.1 1 < 4 := hw.2.2.2.1
  have w2 : A.1 2 < 256 := hw.2.2.2.2.1
  have w3 : A.1 4 + A.1 3 ≤ 200 := hw.2.2.2.2.2.1
  have w5 : A.1 5 ≤ 16 := hw.2.2.2.2.2.2.1
  have w6 : A.1 6 ≤ 20 := hw.2.2.2.2.2.2.2.1
  have w7 : A.1 7 ≤ 1 := hw.2.2.2.2.2.2.2.2
  have hreach := rc_reach (l := l) (b := b) (x := x) (D := D) (dA := dA) hn hR (by omega) h ok
  obtain ⟨pf1, pf2, pf3⟩ := pk_facts ok hw.2.1 h
  rw [pf1] at hreach
  have ho9 : ((bf_seq (ag_fn A.2.2) (A.2.1.foldl bf_see []) 9).map g).length ≤ 9 := by rw [List.length_map, pf1]; omega
  refine fm_aload_n hc d_Mo_pack_0 rfl rfl ?_
  refine fm_iload_n hc d_Mo_pack_1 rfl rfl ?_
  refine fm_callV (av := [.int (nI gi)]) (rest := []) (ob := 586) (ci := 11) (r0 := ("AgentNetModel", F_Mo, 51)) (y := y_Mo_reach) (bytes := b_Mo_reach) hc fm_T0_good (fm_EX_st b x) hex q_1106 q_13 q_1103 q_1105 qs_Mo_reach pd_Mo_reach (by decide) (by omega) (by decide) (by decide) rfl rfl (hreach) ⟨rfl, rfl, Nat.le_of_ble_eq_true rfl, Nat.le_of_ble_eq_true rfl⟩ ⟨Nat.le_of_ble_eq_true rfl, Nat.le_of_ble_eq_true rfl⟩ d_Mo_pack_2 (Nat.le_of_ble_eq_true rfl) (fun r n2 M2 hp => ?_)
  obtain ⟨rfl, hq1, hH0, hK⟩ := hp
  replace hq1 := hq1.symm
  subst hq1
  revert hH0 hK
  generalize M2 = Mr
  intro hH0 hK
  have hRr : fm_RP Mr := frK_RP hK hR
  refine fm_cnt (z' := (0, 0)) rfl (fm_st (st' := [.int (nI A.2.2.length)]) rfl ?_)
  refine fm_istore_n (lv' := [(3, .int (nI A.2.2.length)), (0, .ref 586), (1, .int (nI gi)), (2, .int (nI kk))]) hc d_Mo_pack_5 rfl (by decide) rfl ?_
  refine fm_aload_n hc d_Mo_pack_6 rfl rfl ?_
  refine fm_sipush (v := nI 128) hc d_Mo_pack_7 rfl ?_
  refine fm_iload_n hc d_Mo_pack_10 rfl rfl ?_
  refine fm_imul hc d_Mo_pack_11 ?_
  refine fm_top (congrArg Value.int (pk_mul 128 kk)) ?_
  refine fm_putI (k := 45) (v := nI (128 * kk)) hc K_Mo d_Mo_pack_12 q_930 rfl (by decide) (by omega) (by decide) (by decide) (by decide) rfl rfl rfl rfl ?_
  refine fm_mem (M' := fm_put1 Mr 586 45 (nI (128 * kk))) rfl rfl ?_
  have hR1 : fm_RP (fm_put1 Mr 586 45 (nI (128 * kk))) := fun q hq => hRr q hq
  have hH1 : rk_H (fm_put1 Mr 586 45 (nI (128 * kk))) ((bf_seq (ag_fn A.2.2) (A.2.1.foldl bf_see []) 9).map g) := ⟨(p1_at (by decide)).trans hH0.1, fun i q hq => (p1_other (by decide)).trans (hH0.2.1 i q hq), fun q hq => (p1_other (by decide)).trans (hH0.2.2 q hq)⟩
  have hA1 : hr_G (fm_put1 Mr 586 45 (nI (128 * kk))) gi F_m A g := hrG_o1 (Or.inl (by omega)) (hrG_K hK h)
  have hi1 : im_R (fm_put1 Mr 586 45 (nI (128 * kk))) kk [] := ⟨p1_same _ _ _ _, fun i v hv => by simp at hv⟩
  refine fm_aload_n hc d_Mo_pack_15 rfl rfl ?_
  refine fm_iload_n hc d_Mo_pack_16 rfl rfl ?_
  refine fm_bipush (v := nI 8) hc d_Mo_pack_17 rfl ?_
  refine fm_irem hc d_Mo_pack_19 (by decide) ?_
  refine fm_top (congrArg Value.int (show nI gi - nI gi / nI 8 * nI 8 = nI (A.1 0) by rw [w0]; exact (irem8 gi (by omega)).trans (congrArg nI hga))) ?_
  refine fm_callV (av := [.int (nI (A.1 0))]) (rest := []) (ob := 586) (ci := 11) (r0 := ("AgentNetModel", F_Mo, 51)) (y := y_Mo_say) (bytes := b_Mo_say) hc fm_T0_good (fm_EX_st b x) hex q_1186 q_13 q_1183 q_1185 qs_Mo_say pd_Mo_say (by decide) (by omega) (by decide) (by decide) rfl rfl (rc_sayB (v := A.1 0) hn hR1 hk (n_255 _ (by omega)) hi1 (by first | omega | (simp only [List.length_append, List.length_cons, List.length_nil]; omega))) ⟨rfl, rfl, Nat.le_of_ble_eq_true rfl, Nat.le_of_ble_eq_true rfl⟩ ⟨Nat.le_of_ble_eq_true rfl, Nat.le_of_ble_eq_true rfl⟩ d_Mo_pack_20 (Nat.le_of_ble_eq_true rfl) (fun r n2 M2 hp => ?_)
  obtain ⟨rfl, hq1, iP9, fP9⟩ := hp
  replace hq1 := hq1.symm
  subst hq1
  revert iP9 fP9
  generalize M2 = P9
  intro iP9 fP9
  have hRP9 := fjM_RP fP9 hR1
  have hHP9 := fjM_rk fP9 hH1
  have hAP9 := fjM_hr fP9 hA1
  refine fm_cnt (z' := (0, 0)) rfl (fm_st (st' := []) rfl ?_)
  refine fm_aload_n hc d_Mo_pack_23 rfl rfl ?_
  refine fm_aload_n hc d_Mo_pack_24 rfl rfl ?_
  refine fm_getR (k := 20) (q := 605) hc K_Mo d_Mo_pack_25 q_905 rfl (by decide) (by omega) (by decide) (by decide) (by decide) rfl (rp_program hRP9) ?_
  refine fm_iload_n hc d_Mo_pack_28 rfl rfl ?_
  refine fm_iald (j := gi) (len := 98) hc 0 d_Mo_pack_29 (by decide) (by omega) (by decide) rfl (by omega) (by decide) ?_
  refine fm_top (congrArg Value.int (hAP9.1 1 (by decide) (by decide) trivial)) ?_
  refine fm_callV (av := [.int (nI (A.1 1))]) (rest := []) (ob := 586) (ci := 11) (r0 := ("AgentNetModel", F_Mo, 51)) (y := y_Mo_say) (bytes := b_Mo_say) hc fm_T0_good (fm_EX_st b x) hex q_1186 q_13 q_1183 q_1185 qs_Mo_say pd_Mo_say (by decide) (by omega) (by decide) (by decide) rfl rfl (rc_sayB (v := A.1 1) hn hRP9 hk (n_255 _ (by omega)) iP9 (by first | omega | (simp only [List.length_append, List.length_cons, List.length_nil]; omega))) ⟨rfl, rfl, Nat.le_of_ble_eq_true rfl, Nat.le_of_ble_eq_true rfl⟩ ⟨Nat.le_of_ble_eq_true rfl, Nat.le_of_ble_eq_true rfl⟩ d_Mo_pack_30 (Nat.le_of_ble_eq_true rfl) (fun r n2 M2 hp => ?_)
  obtain ⟨rfl, hq1, iP10, fP10⟩ := hp
  replace hq1 := hq1.symm
  subst hq1
  revert iP10 fP10
  generalize M2 = P10
  intro iP10 fP10
  have hRP10 := fjM_RP fP10 hRP9
  have hHP10 := fjM_rk fP10 hHP9
  have hAP10 := fjM_hr fP10 hAP9
  refine fm_cnt (z' := (0, 0)) rfl (fm_st (st' := []) rfl ?_)
  refine fm_aload_n hc d_Mo_pack_33 rfl rfl ?_
  refine fm_aload_n hc d_Mo_pack_34 rfl rfl ?_
  refine fm_getR (k := 21) (q := 606) hc K_Mo d_Mo_pack_35 q_906 rfl (by decide) (by omega) (by decide) (by decide) (by decide) rfl (rp_place hRP10) ?_
  refine fm_iload_n hc d_Mo_pack_38 rfl rfl ?_
  refine fm_iald (j := gi) (len := 98) hc 0 d_Mo_pack_39 (by decide) (by omega) (by decide) rfl (by omega) (by decide) ?_
  refine fm_top (congrArg Value.int (hAP10.1 2 (by decide) (by decide) trivial)) ?_
  refine fm_callV (av := [.int (nI (A.1 2))]) (rest := []) (ob := 586) (ci := 11) (r0 := ("AgentNetModel", F_Mo, 51)) (y := y_Mo_say) (bytes := b_Mo_say) hc fm_T0_good (fm_EX_st b x) hex q_1186 q_13 q_1183 q_1185 qs_Mo_say pd_Mo_say (by decide) (by omega) (by decide) (by decide) rfl rfl (rc_sayB (v := A.1 2) hn hRP10 hk (n_255 _ (by omega)) iP10 (by first | omega | (simp only [List.length_append, List.length_cons, List.length_nil]; omega))) ⟨rfl, rfl, Nat.le_of_ble_eq_true rfl, Nat.le_of_ble_eq_true rfl⟩ ⟨Nat.le_of_ble_eq_true rfl, Nat.le_of_ble_eq_true rfl⟩ d_Mo_pack_40 (Nat.le_of_ble_eq_true rfl) (fun r n2 M2 hp => ?_)
  obtain ⟨rfl, hq1, iP11, fP11⟩ := hp
  replace hq1 := hq1.symm
  subst hq1
  revert iP11 fP11
  generalize M2 = P11
  intro iP11 fP11
  have hRP11 := fjM_RP fP11 hRP10
  have hHP11 := fjM_rk fP11 hHP10
  have hAP11 := fjM_hr fP11 hAP10
  refine fm_cnt (z' := (0, 0)) rfl (fm_st (st' := []) rfl ?_)
  refine fm_aload_n hc d_Mo_pack_43 rfl rfl ?_
  refine fm_aload_n hc d_Mo_pack_44 rfl rfl ?_
  refine fm_getR (k := 23) (q := 608) hc K_Mo d_Mo_pack_45 q_908 rfl (by decide) (by omega) (by decide) (by decide) (by decide) rfl (rp_hops hRP11) ?_
  refine fm_iload_n hc d_Mo_pack_48 rfl rfl ?_
  refine fm_iald (j := gi) (len := 98) hc 0 d_Mo_pack_49 (by decide) (by omega) (by decide) rfl (by omega) (by decide) ?_
  refine fm_top (congrArg Value.int (hAP11.1 4 (by decide) (by decide) trivial)) ?_
  refine fm_callV (av := [.int (nI (A.1 4))]) (rest := []) (ob := 586) (ci := 11) (r0 := ("AgentNetModel", F_Mo, 51)) (y := y_Mo_say) (bytes := b_Mo_say) hc fm_T0_good (fm_EX_st b x) hex q_1186 q_13 q_1183 q_1185 qs_Mo_say pd_Mo_say (by decide) (by omega) (by decide) (by decide) rfl rfl (rc_sayB (v := A.1 4) hn hRP11 hk (n_255 _ (by omega)) iP11 (by first | omega | (simp only [List.length_append, List.length_cons, List.length_nil]; omega))) ⟨rfl, rfl, Nat.le_of_ble_eq_true rfl, Nat.le_of_ble_eq_true rfl⟩ ⟨Nat.le_of_ble_eq_true rfl, Nat.le_of_ble_eq_true rfl⟩ d_Mo_pack_50 (Nat.le_of_ble_eq_true rfl) (fun r n2 M2 hp => ?_)
  obtain ⟨rfl, hq1, iP12, fP12⟩ := hp
  replace hq1 := hq1.symm
  subst hq1
  revert iP12 fP12
  generalize M2 = P12
  intro iP12 fP12
  have hRP12 := fjM_RP fP12 hRP11
  have hHP12 := fjM_rk fP12 hHP11
  have hAP12 := fjM_hr fP12 hAP11
  refine fm_cnt (z' := (0, 0)) rfl (fm_st (st' := []) rfl ?_)
  refine fm_aload_n hc d_Mo_pack_53 rfl rfl ?_
  refine fm_aload_n hc d_Mo_pack_54 rfl rfl ?_
  refine fm_getR (k := 24) (q := 609) hc K_Mo d_Mo_pack_55 q_909 rfl (by decide) (by omega) (by decide) (by decide) (by decide) rfl (rp_said hRP12) ?_
  refine fm_iload_n hc d_Mo_pack_58 rfl rfl ?_
  refine fm_iald (j := gi) (len := 98) hc 0 d_Mo_pack_59 (by decide) (by omega) (by decide) rfl (by omega) (by decide) ?_
  refine fm_top (congrArg Value.int (hAP12.1 5 (by decide) (by decide) trivial)) ?_
  refine fm_callV (av := [.int (nI (A.1 5))]) (rest := []) (ob := 586) (ci := 11) (r0 := ("AgentNetModel", F_Mo, 51)) (y := y_Mo_say) (bytes := b_Mo_say) hc fm_T0_good (fm_EX_st b x) hex q_1186 q_13 q_1183 q_1185 qs_Mo_say pd_Mo_say (by decide) (by omega) (by decide) (by decide) rfl rfl (rc_sayB (v := A.1 5) hn hRP12 hk (n_255 _ (by omega)) iP12 (by first | omega | (simp only [List.length_append, List.length_cons, List.length_nil]; omega))) ⟨rfl, rfl, Nat.le_of_ble_eq_true rfl, Nat.le_of_ble_eq_true rfl⟩ ⟨Nat.le_of_ble_eq_true rfl, Nat.le_of_ble_eq_true rfl⟩ d_Mo_pack_60 (Nat.le_of_ble_eq_true rfl) (fun r n2 M2 hp => ?_)
  obtain ⟨rfl, hq1, iP13, fP13⟩ := hp
  replace hq1 := hq1.symm
  subst hq1
  revert iP13 fP13
  generalize M2 = P13
  intro iP13 fP13
  have hRP13 := fjM_RP fP13 hRP12
  have hHP13 := fjM_rk fP13 hHP12
  have hAP13 := fjM_hr fP13 hAP12
  refine fm_cnt (z' := (0, 0)) rfl (fm_st (st' := []) rfl ?_)
  refine fm_aload_n hc d_Mo_pack_63 rfl rfl ?_
  refine fm_aload_n hc d_Mo_pack_64 rfl rfl ?_
  refine fm_getR (k := 25) (q := 610) hc K_Mo d_Mo_pack_65 q_910 rfl (by decide) (by omega) (by decide) (by decide) (by decide) rfl (rp_wait hRP13) ?_
  refine fm_iload_n hc d_Mo_pack_68 rfl rfl ?_
  refine fm_iald (j := gi) (len := 98) hc 0 d_Mo_pack_69 (by decide) (by omega) (by decide) rfl (by omega) (by decide) ?_
  refine fm_top (congrArg Value.int (hAP13.1 6 (by decide) (by decide) trivial)) ?_
  refine fm_callV (av := [.int (nI (A.1 6))]) (rest := []) (ob := 586) (ci := 11) (r0 := ("AgentNetModel", F_Mo, 51)) (y := y_Mo_say) (bytes := b_Mo_say) hc fm_T0_good (fm_EX_st b x) hex q_1186 q_13 q_1183 q_1185 qs_Mo_say pd_Mo_say (by decide) (by omega) (by decide) (by decide) rfl rfl (rc_sayB (v := A.1 6) hn hRP13 hk (n_255 _ (by omega)) iP13 (by first | omega | (simp only [List.length_append, List.length_cons, List.length_nil]; omega))) ⟨rfl, rfl, Nat.le_of_ble_eq_true rfl, Nat.le_of_ble_eq_true rfl⟩ ⟨Nat.le_of_ble_eq_true rfl, Nat.le_of_ble_eq_true rfl⟩ d_Mo_pack_70 (Nat.le_of_ble_eq_true rfl) (fun r n2 M2 hp => ?_)
  obtain ⟨rfl, hq1, iP14, fP14⟩ := hp
  replace hq1 := hq1.symm
  subst hq1
  revert iP14 fP14
  generalize M2 = P14
  intro iP14 fP14
  have hRP14 := fjM_RP fP14 hRP13
  have hHP14 := fjM_rk fP14 hHP13
  have hAP14 := fjM_hr fP14 hAP13
  refine fm_cnt (z' := (0, 0)) rfl (fm_st (st' := []) rfl ?_)
  refine fm_aload_n hc d_Mo_pack_73 rfl rfl ?_
  refine fm_aload_n hc d_Mo_pack_74 rfl rfl ?_
  refine fm_getR (k := 26) (q := 611) hc K_Mo d_Mo_pack_75 q_911 rfl (by decide) (by omega) (by decide) (by decide) (by decide) rfl (rp_cloned hRP14) ?_
  refine fm_iload_n hc d_Mo_pack_78 rfl rfl ?_
  refine fm_zald (j := gi) (len := 98) hc 1 d_Mo_pack_79 (by decide) (by omega) (by decide) rfl (by omega) (by decide) ?_
  refine fm_top (congrArg Value.int (hAP14.1 7 (by decide) (by decide) trivial)) ?_
  refine fm_join (pc2 := 88) (lv2 := [(3, .int (nI A.2.2.length)), (0, .ref 586), (1, .int (nI gi)), (2, .int (nI kk))]) (st2 := [.int (nI (A.1 7)), .ref 586]) (I := fun M' => M' = P14) (fun M' hI => ?_) (fun J => ?_)
  · subst hI
    refine fm_callV (av := [.int (nI (A.1 7))]) (rest := []) (ob := 586) (ci := 11) (r0 := ("AgentNetModel", F_Mo, 51)) (y := y_Mo_say) (bytes := b_Mo_say) hc fm_T0_good (fm_EX_st b x) hex q_1186 q_13 q_1183 q_1185 qs_Mo_say pd_Mo_say (by decide) (by omega) (by decide) (by decide) rfl rfl (rc_sayB (v := A.1 7) hn hRP14 hk (n_255 _ (by omega)) iP14 (by first | omega | (simp only [List.length_append, List.length_cons, List.length_nil]; omega))) ⟨rfl, rfl, Nat.le_of_ble_eq_true rfl, Nat.le_of_ble_eq_true rfl⟩ ⟨Nat.le_of_ble_eq_true rfl, Nat.le_of_ble_eq_true rfl⟩ d_Mo_pack_88 (Nat.le_of_ble_eq_true rfl) (fun r n2 M2 hp => ?_)
    obtain ⟨rfl, hq1, iP15, fP15⟩ := hp
    replace hq1 := hq1.symm
    subst hq1
    revert iP15 fP15
    generalize M2 = P15
    intro iP15 fP15
    have hRP15 := fjM_RP fP15 hRP14
    have hHP15 := fjM_rk fP15 hHP14
    have hAP15 := fjM_hr fP15 hAP14
    refine fm_cnt (z' := (0, 0)) rfl (fm_st (st' := []) rfl ?_)
    refine fm_aload_n hc d_Mo_pack_91 rfl rfl ?_
    refine fm_aload_n hc d_Mo_pack_92 rfl rfl ?_
    refine fm_getR (k := 22) (q := 607) hc K_Mo d_Mo_pack_93 q_907 rfl (by decide) (by omega) (by decide) (by decide) (by decide) rfl (rp_fuel hRP15) ?_
    refine fm_iload_n hc d_Mo_pack_96 rfl rfl ?_
    refine fm_iald (j := gi) (len := 98) hc 0 d_Mo_pack_97 (by decide) (by omega) (by decide) rfl (by omega) (by decide) ?_
    refine fm_top (congrArg Value.int (hAP15.1 3 (by decide) (by decide) trivial)) ?_
    refine fm_bipush (v := nI 8) hc d_Mo_pack_98 rfl ?_
    refine fm_ishr hc d_Mo_pack_100 ?_
    refine fm_top (congrArg Value.int (i8_n0 _ (by omega))) ?_
    refine fm_callV (av := [.int (nI 0)]) (rest := []) (ob := 586) (ci := 11) (r0 := ("AgentNetModel", F_Mo, 51)) (y := y_Mo_say) (bytes := b_Mo_say) hc fm_T0_good (fm_EX_st b x) hex q_1186 q_13 q_1183 q_1185 qs_Mo_say pd_Mo_say (by decide) (by omega) (by decide) (by decide) rfl rfl (rc_sayB (v := 0) hn hRP15 hk rfl iP15 (by first | omega | (simp only [List.length_append, List.length_cons, List.length_nil]; omega))) ⟨rfl, rfl, Nat.le_of_ble_eq_true rfl, Nat.le_of_ble_eq_true rfl⟩ ⟨Nat.le_of_ble_eq_true rfl, Nat.le_of_ble_eq_true rfl⟩ d_Mo_pack_101 (Nat.le_of_ble_eq_true rfl) (fun r n2 M2 hp => ?_)
    obtain ⟨rfl, hq1, iP16, fP16⟩ := hp
    replace hq1 := hq1.symm
    subst hq1
    revert iP16 fP16
    generalize M2 = P16
    intro iP16 fP16
    have hRP16 := fjM_RP fP16 hRP15
    have hHP16 := fjM_rk fP16 hHP15
    have hAP16 := fjM_hr fP16 hAP15
    refine fm_cnt (z' := (0, 0)) rfl (fm_st (st' := []) rfl ?_)
    refine fm_aload_n hc d_Mo_pack_104 rfl rfl ?_
    refine fm_aload_n hc d_Mo_pack_105 rfl rfl ?_
    refine fm_getR (k := 22) (q := 607) hc K_Mo d_Mo_pack_106 q_907 rfl (by decide) (by omega) (by decide) (by decide) (by decide) rfl (rp_fuel hRP16) ?_
    refine fm_iload_n hc d_Mo_pack_109 rfl rfl ?_
    refine fm_iald (j := gi) (len := 98) hc 0 d_Mo_pack_110 (by decide) (by omega) (by decide) rfl (by omega) (by decide) ?_
    refine fm_top (congrArg Value.int (hAP16.1 3 (by decide) (by decide) trivial)) ?_
    refine fm_callV (av := [.int (nI (A.1 3))]) (rest := []) (ob := 586) (ci := 11) (r0 := ("AgentNetModel", F_Mo, 51)) (y := y_Mo_say) (bytes := b_Mo_say) hc fm_T0_good (fm_EX_st b x) hex q_1186 q_13 q_1183 q_1185 qs_Mo_say pd_Mo_say (by decide) (by omega) (by decide) (by decide) rfl rfl (rc_sayB (v := A.1 3) hn hRP16 hk (n_255 _ (by omega)) iP16 (by first | omega | (simp only [List.length_append, List.length_cons, List.length_nil]; omega))) ⟨rfl, rfl, Nat.le_of_ble_eq_true rfl, Nat.le_of_ble_eq_true rfl⟩ ⟨Nat.le_of_ble_eq_true rfl, Nat.le_of_ble_eq_true rfl⟩ d_Mo_pack_111 (Nat.le_of_ble_eq_true rfl) (fun r n2 M2 hp => ?_)
    obtain ⟨rfl, hq1, iP17, fP17⟩ := hp
    replace hq1 := hq1.symm
    subst hq1
    revert iP17 fP17
    generalize M2 = P17
    intro iP17 fP17
    have hRP17 := fjM_RP fP17 hRP16
    have hHP17 := fjM_rk fP17 hHP16
    have hAP17 := fjM_hr fP17 hAP16
    refine fm_cnt (z' := (0, 0)) rfl (fm_st (st' := []) rfl ?_)
    refine fm_aload_n hc d_Mo_pack_114 rfl rfl ?_
    refine fm_aload_n hc d_Mo_pack_115 rfl rfl ?_
    refine fm_getR (k := 27) (q := 612) hc K_Mo d_Mo_pack_116 q_912 rfl (by decide) (by omega) (by decide) (by decide) (by decide) rfl (rp_size hRP17) ?_
    refine fm_iload_n hc d_Mo_pack_119 rfl rfl ?_
    refine fm_iald (j := gi) (len := 98) hc 0 d_Mo_pack_120 (by decide) (by omega) (by decide) rfl (by omega) (by decide) ?_
    refine fm_top (congrArg Value.int hAP17.2.1) ?_
    refine fm_callV (av := [.int (nI A.2.1.length)]) (rest := []) (ob := 586) (ci := 11) (r0 := ("AgentNetModel", F_Mo, 51)) (y := y_Mo_say) (bytes := b_Mo_say) hc fm_T0_good (fm_EX_st b x) hex q_1186 q_13 q_1183 q_1185 qs_Mo_say pd_Mo_say (by decide) (by omega) (by decide) (by decide) rfl rfl (rc_sayB (v := A.2.1.length) hn hRP17 hk (n_255 _ (by omega)) iP17 (by first | omega | (simp only [List.length_append, List.length_cons, List.length_nil]; omega))) ⟨rfl, rfl, Nat.le_of_ble_eq_true rfl, Nat.le_of_ble_eq_true rfl⟩ ⟨Nat.le_of_ble_eq_true rfl, Nat.le_of_ble_eq_true rfl⟩ d_Mo_pack_121 (Nat.le_of_ble_eq_true rfl) (fun r n2 M2 hp => ?_)
    obtain ⟨rfl, hq1, iP18, fP18⟩ := hp
    replace hq1 := hq1.symm
    subst hq1
    revert iP18 fP18
    generalize M2 = P18
    intro iP18 fP18
    have hRP18 := fjM_RP fP18 hRP17
    have hHP18 := fjM_rk fP18 hHP17
    have hAP18 := fjM_hr fP18 hAP17
    refine fm_cnt (z' := (0, 0)) rfl (fm_st (st' := []) rfl ?_)
    refine fm_iconst (v := nI 0) hc d_Mo_pack_124 rfl ?_
    refine fm_istore (lv' := [(4, .int (nI 0)), (3, .int (nI A.2.2.length)), (0, .ref 586), (1, .int (nI gi)), (2, .int (nI kk))]) hc d_Mo_pack_125 (by decide) rfl ?_
    refine fm_loopI (N := A.2.1.length) (lv := fun k => [(4, .int (nI k)), (3, .int (nI A.2.2.length)), (0, .ref 586), (1, .int (nI gi)), (2, .int (nI kk))]) (I := fun k M' => im_R M' kk (im_H A.1 A.2.1.length ++ (A.2.1.take k).flatMap im_V) ∧ fj_M kk (fm_put1 Mr 586 45 (nI (128 * kk))) M') (fun k Mk hk' hI ih => ?_) (fun Mk hI => ?_) ⟨iP18, (fjM_tr (fjM_tr (fjM_tr (fjM_tr (fjM_tr (fjM_tr (fjM_tr (fjM_tr (fjM_tr fP9 fP10) fP11) fP12) fP13) fP14) fP15) fP16) fP17) fP18)⟩
    · obtain ⟨i1, i2⟩ := hI
      have hRk := fjM_RP i2 hR1
      have hHk := fjM_rk i2 hH1
      have hAk := fjM_hr i2 hA1
      obtain ⟨v, hv⟩ : ∃ v, A.2.1[k]? = some v := ⟨_, List.getElem?_eq_getElem hk'⟩
      obtain ⟨hv1, hv2⟩ := pf2 k v hv
      have hle : (im_H A.1 A.2.1.length ++ (A.2.1.take k).flatMap im_V).length + 5 ≤ 128 := by
        have := fl_len imV_len (A.2.1.take k)
        rw [List.length_take] at this
        rw [List.length_append]
        show 10 + _ + 5 ≤ 128
        omega
      refine fm_iload hc d_Mo_pack_127 rfl ?_
      refine fm_aload_n hc d_Mo_pack_129 rfl rfl ?_
      refine fm_getR (k := 27) (q := 612) hc K_Mo d_Mo_pack_130 q_912 rfl (by decide) (by omega) (by decide) (by decide) (by decide) rfl (rp_size hRk) ?_
      refine fm_iload_n hc d_Mo_pack_133 rfl rfl ?_
      refine fm_iald (j := gi) (len := 98) hc 0 d_Mo_pack_134 (by decide) (by omega) (by decide) rfl (by omega) (by decide) ?_
      refine fm_top (congrArg Value.int hAk.2.1) ?_
      refine fm_icmp_ge (tgt := 160) hc d_Mo_pack_135 rfl (fun g => absurd g (hnle (a := A.2.1.length) (c := k) hk' (by omega))) (fun _ => ?_)
      refine fm_aload_n hc d_Mo_pack_138 rfl rfl ?_
      refine fm_aload_n hc d_Mo_pack_139 rfl rfl ?_
      refine fm_getR (k := 28) (q := 613) hc K_Mo d_Mo_pack_140 q_913 rfl (by decide) (by omega) (by decide) (by decide) (by decide) rfl (rp_stack hRk) ?_
      refine fm_bipush (v := nI 6) hc d_Mo_pack_143 rfl ?_
      refine fm_iload_n hc d_Mo_pack_145 rfl rfl ?_
      refine fm_imul hc d_Mo_pack_146 ?_
      refine fm_top (congrArg Value.int (pk_mul 6 gi)) ?_
      refine fm_iload hc d_Mo_pack_147 rfl ?_
      refine fm_iadd hc d_Mo_pack_149 ?_
      refine fm_top (congrArg Value.int (nI_add (6 * gi) k)) ?_
      refine fm_lald (j := (6 * gi) + k) (len := 588) hc 3 d_Mo_pack_150 (by decide) (by omega) (by decide) rfl (by omega) (by decide) ?_
      refine fm_top (congrArg Value.long (hAk.2.2.2.2.1 k v hv)) ?_
      refine fm_callV (av := [.long (e64 (bf_map g v))]) (rest := []) (ob := 586) (ci := 11) (r0 := ("AgentNetModel", F_Mo, 51)) (y := y_Mo_sayValue) (bytes := b_Mo_sayValue) hc fm_T0_good (fm_EX_st b x) hex q_1190 q_13 q_1187 q_1189 qs_Mo_sayValue pd_Mo_sayValue (by decide) (by omega) (by decide) (by decide) rfl rfl (rc_sayV (u := bf_map g v) (ord := ((bf_seq (ag_fn A.2.2) (A.2.1.foldl bf_see []) 9).map g)) hn hRk hk i1 hle hHk hv1 ho9) ⟨rfl, rfl, Nat.le_of_ble_eq_true rfl, Nat.le_of_ble_eq_true rfl⟩ ⟨Nat.le_of_ble_eq_true rfl, Nat.le_of_ble_eq_true rfl⟩ d_Mo_pack_151 (Nat.le_of_ble_eq_true rfl) (fun r n2 M2 hp => ?_)
      obtain ⟨rfl, hq1, iP19, fP19⟩ := hp
      replace hq1 := hq1.symm
      subst hq1
      revert iP19 fP19
      generalize M2 = P19
      intro iP19 fP19
      rw [hv2] at iP19
      have hRP19 := fjM_RP fP19 hRk
      have hHP19 := fjM_rk fP19 hHk
      have hAP19 := fjM_hr fP19 hAk
      refine fm_cnt (z' := (0, 0)) rfl (fm_st (st' := []) rfl ?_)
      refine fm_iinc (v := nI (k + 1)) (lv' := [(4, .int (nI (k + 1))), (3, .int (nI A.2.2.length)), (0, .ref 586), (1, .int (nI gi)), (2, .int (nI kk))]) hc d_Mo_pack_154 rfl (nI_1 k) (by decide) rfl ?_
      refine fm_goto (tgt := 127) hc d_Mo_pack_157 rfl ?_
      refine fm_dropl (lv' := [(4, .int (nI (k + 1))), (3, .int (nI A.2.2.length)), (0, .ref 586), (1, .int (nI gi)), (2, .int (nI kk))]) (by simp) ?_
      exact ih _ ⟨by rw [fl_take hv, ← List.append_assoc]; exact iP19, (fjM_tr i2 fP19)⟩
    · obtain ⟨i1, i2⟩ := hI
      have hRk := fjM_RP i2 hR1
      have hHk := fjM_rk i2 hH1
      have hAk := fjM_hr i2 hA1
      rw [List.take_length] at i1
      have hlt : (im_H A.1 A.2.1.length ++ A.2.1.flatMap im_V).length < 128 := by
        have := fl_len imV_len A.2.1
        rw [List.length_append]
        show 10 + _ < 128
        omega
      refine fm_iload hc d_Mo_pack_127 rfl ?_
      refine fm_aload_n hc d_Mo_pack_129 rfl rfl ?_
      refine fm_getR (k := 27) (q := 612) hc K_Mo d_Mo_pack_130 q_912 rfl (by decide) (by omega) (by decide) (by decide) (by decide) rfl (rp_size hRk) ?_
      refine fm_iload_n hc d_Mo_pack_133 rfl rfl ?_
      refine fm_iald (j := gi) (len := 98) hc 0 d_Mo_pack_134 (by decide) (by omega) (by decide) rfl (by omega) (by decide) ?_
      refine fm_top (congrArg Value.int hAk.2.1) ?_
      refine fm_icmp_ge (tgt := 160) hc d_Mo_pack_135 rfl (fun _ => ?_) (fun g => absurd (nI_le (Nat.le_refl _) (by omega)) g)
      refine fm_aload_n hc d_Mo_pack_160 rfl rfl ?_
      refine fm_iload_n hc d_Mo_pack_161 rfl rfl ?_
      refine fm_callV (av := [.int (nI A.2.2.length)]) (rest := []) (ob := 586) (ci := 11) (r0 := ("AgentNetModel", F_Mo, 51)) (y := y_Mo_say) (bytes := b_Mo_say) hc fm_T0_good (fm_EX_st b x) hex q_1186 q_13 q_1183 q_1185 qs_Mo_say pd_Mo_say (by decide) (by omega) (by decide) (by decide) rfl rfl (rc_sayB (v := A.2.2.length) hn hRk hk (n_255 _ (by omega)) i1 hlt) ⟨rfl, rfl, Nat.le_of_ble_eq_true rfl, Nat.le_of_ble_eq_true rfl⟩ ⟨Nat.le_of_ble_eq_true rfl, Nat.le_of_ble_eq_true rfl⟩ d_Mo_pack_162 (Nat.le_of_ble_eq_true rfl) (fun r n2 M2 hp => ?_)
      obtain ⟨rfl, hq1, iQ, fQ⟩ := hp
      replace hq1 := hq1.symm
      subst hq1
      revert iQ fQ
      generalize M2 = PQ
      intro iQ fQ
      have hRQ := fjM_RP fQ hRk
      refine fm_cnt (z' := (0, 0)) rfl (fm_st (st' := []) rfl ?_)
      refine fm_iconst (v := nI 0) hc d_Mo_pack_165 rfl ?_
      refine fm_istore (lv' := [(4, .int (nI 0)), (3, .int (nI A.2.2.length)), (0, .ref 586), (1, .int (nI gi)), (2, .int (nI kk))]) hc d_Mo_pack_166 (by decide) rfl ?_
      refine fm_loopI (N := A.2.2.length) (lv := fun k => [(4, .int (nI k)), (3, .int (nI A.2.2.length)), (0, .ref 586), (1, .int (nI gi)), (2, .int (nI kk))]) (I := fun k M' => im_R M' kk ((im_H A.1 A.2.1.length ++ A.2.1.flatMap im_V ++ [A.2.2.length]) ++ (A.2.2.take k).flatMap im_P) ∧ fj_M kk (fm_put1 Mr 586 45 (nI (128 * kk))) M') (fun k Mk hk' hI ih => ?_) (fun Mk hI => ?_) ⟨by rw [List.take_zero, List.flatMap_nil, List.append_nil]; exact iQ, fjM_tr i2 fQ⟩
      · clear i1 i2 hRk hHk hAk
        obtain ⟨i1, i2⟩ := hI
        have hRk := fjM_RP i2 hR1
        have hHk := fjM_rk i2 hH1
        have hAk := fjM_hr i2 hA1
        obtain ⟨v, hv⟩ : ∃ v, A.2.2[k]? = some v := ⟨_, List.getElem?_eq_getElem hk'⟩
        obtain ⟨c0, u1, u2, k1, k2, k3, k4, k5, k6, k7, k8⟩ := pf3 k v hv
        have k3 : Mk.2.1 615 (9 * gi + c0) = e64 u1 := by rw [i2.1]; exact (by rw [show Mr.2 = M.2 from hK.1]; exact k3 : Mr.2.1 615 (9 * gi + c0) = e64 u1)
        have k4 : Mk.2.1 616 (9 * gi + c0) = e64 u2 := by rw [i2.1]; exact (by rw [show Mr.2 = M.2 from hK.1]; exact k4 : Mr.2.1 616 (9 * gi + c0) = e64 u2)
        have hle : ((im_H A.1 A.2.1.length ++ A.2.1.flatMap im_V ++ [A.2.2.length]) ++ (A.2.2.take k).flatMap im_P).length + 10 ≤ 128 := by
          have h1 := fl_len imV_len A.2.1
          have h2 := fl_len imP_len (A.2.2.take k)
          rw [List.length_take] at h2
          rw [List.length_append, List.length_append, List.length_append]
          show 10 + _ + 1 + _ + 10 ≤ 128
          omega
        have hle2 : (((im_H A.1 A.2.1.length ++ A.2.1.flatMap im_V ++ [A.2.2.length]) ++ (A.2.2.take k).flatMap im_P) ++ im_V v.1).length + 5 ≤ 128 := by
          rw [List.length_append]
          have := imV_len v.1
          omega
        refine fm_iload hc d_Mo_pack_168 rfl ?_
        refine fm_iload_n hc d_Mo_pack_170 rfl rfl ?_
        refine fm_icmp_ge (tgt := 222) hc d_Mo_pack_171 rfl (fun g => absurd g (hnle (a := A.2.2.length) (c := k) hk' (by omega))) (fun _ => ?_)
        refine fm_aload_n hc d_Mo_pack_174 rfl rfl ?_
        refine fm_aload_n hc d_Mo_pack_175 rfl rfl ?_
        refine fm_getR (k := 30) (q := 615) hc K_Mo d_Mo_pack_176 q_915 rfl (by decide) (by omega) (by decide) (by decide) (by decide) rfl (rp_first hRk) ?_
        refine fm_bipush (v := nI 9) hc d_Mo_pack_179 rfl ?_
        refine fm_iload_n hc d_Mo_pack_181 rfl rfl ?_
        refine fm_imul hc d_Mo_pack_182 ?_
        refine fm_top (congrArg Value.int (pk_mul 9 gi)) ?_
        refine fm_aload_n hc d_Mo_pack_183 rfl rfl ?_
        refine fm_getR (k := 33) (q := 617) hc K_Mo d_Mo_pack_184 q_918 rfl (by decide) (by omega) (by decide) (by decide) (by decide) rfl (rp_order hRk) ?_
        refine fm_iload hc d_Mo_pack_187 rfl ?_
        refine fm_iald (j := k) (len := 9) hc 0 d_Mo_pack_189 (by decide) (by omega) (by decide) rfl (by omega) (by decide) ?_
        refine fm_top (congrArg Value.int (hHk.2.1 k c0 k1)) ?_
        refine fm_iadd hc d_Mo_pack_190 ?_
        refine fm_top (congrArg Value.int (nI_add (9 * gi) c0)) ?_
        refine fm_lald (j := (9 * gi) + c0) (len := 882) hc 3 d_Mo_pack_191 (by decide) (by omega) (by decide) rfl (by omega) (by decide) ?_
        refine fm_top (congrArg Value.long k3) ?_
        refine fm_callV (av := [.long (e64 u1)]) (rest := []) (ob := 586) (ci := 11) (r0 := ("AgentNetModel", F_Mo, 51)) (y := y_Mo_sayValue) (bytes := b_Mo_sayValue) hc fm_T0_good (fm_EX_st b x) hex q_1190 q_13 q_1187 q_1189 qs_Mo_sayValue pd_Mo_sayValue (by decide) (by omega) (by decide) (by decide) rfl rfl (rc_sayV (u := u1) (ord := ((bf_seq (ag_fn A.2.2) (A.2.1.foldl bf_see []) 9).map g)) hn hRk hk i1 (by omega) hHk k5 ho9) ⟨rfl, rfl, Nat.le_of_ble_eq_true rfl, Nat.le_of_ble_eq_true rfl⟩ ⟨Nat.le_of_ble_eq_true rfl, Nat.le_of_ble_eq_true rfl⟩ d_Mo_pack_192 (Nat.le_of_ble_eq_true rfl) (fun r n2 M2 hp => ?_)
        obtain ⟨rfl, hq1, iP21, fP21⟩ := hp
        replace hq1 := hq1.symm
        subst hq1
        revert iP21 fP21
        generalize M2 = P21
        intro iP21 fP21
        rw [k7] at iP21
        have hRP21 := fjM_RP fP21 hRk
        have hHP21 := fjM_rk fP21 hHk
        have hAP21 := fjM_hr fP21 hAk
        refine fm_cnt (z' := (0, 0)) rfl (fm_st (st' := []) rfl ?_)
        refine fm_aload_n hc d_Mo_pack_195 rfl rfl ?_
        refine fm_aload_n hc d_Mo_pack_196 rfl rfl ?_
        refine fm_getR (k := 31) (q := 616) hc K_Mo d_Mo_pack_197 q_916 rfl (by decide) (by omega) (by decide) (by decide) (by decide) rfl (rp_second hRP21) ?_
        refine fm_bipush (v := nI 9) hc d_Mo_pack_200 rfl ?_
        refine fm_iload_n hc d_Mo_pack_202 rfl rfl ?_
        refine fm_imul hc d_Mo_pack_203 ?_
        refine fm_top (congrArg Value.int (pk_mul 9 gi)) ?_
        refine fm_aload_n hc d_Mo_pack_204 rfl rfl ?_
        refine fm_getR (k := 33) (q := 617) hc K_Mo d_Mo_pack_205 q_918 rfl (by decide) (by omega) (by decide) (by decide) (by decide) rfl (rp_order hRP21) ?_
        refine fm_iload hc d_Mo_pack_208 rfl ?_
        refine fm_iald (j := k) (len := 9) hc 0 d_Mo_pack_210 (by decide) (by omega) (by decide) rfl (by omega) (by decide) ?_
        refine fm_top (congrArg Value.int (hHP21.2.1 k c0 k1)) ?_
        refine fm_iadd hc d_Mo_pack_211 ?_
        refine fm_top (congrArg Value.int (nI_add (9 * gi) c0)) ?_
        refine fm_lald (j := (9 * gi) + c0) (len := 882) hc 3 d_Mo_pack_212 (by decide) (by omega) (by decide) rfl (by omega) (by decide) ?_
        refine fm_top (congrArg Value.long (show P21.2.1 616 (9 * gi + c0) = e64 u2 by rw [fP21.1]; exact k4)) ?_
        refine fm_callV (av := [.long (e64 u2)]) (rest := []) (ob := 586) (ci := 11) (r0 := ("AgentNetModel", F_Mo, 51)) (y := y_Mo_sayValue) (bytes := b_Mo_sayValue) hc fm_T0_good (fm_EX_st b x) hex q_1190 q_13 q_1187 q_1189 qs_Mo_sayValue pd_Mo_sayValue (by decide) (by omega) (by decide) (by decide) rfl rfl (rc_sayV (u := u2) (ord := ((bf_seq (ag_fn A.2.2) (A.2.1.foldl bf_see []) 9).map g)) hn hRP21 hk iP21 hle2 hHP21 k6 ho9) ⟨rfl, rfl, Nat.le_of_ble_eq_true rfl, Nat.le_of_ble_eq_true rfl⟩ ⟨Nat.le_of_ble_eq_true rfl, Nat.le_of_ble_eq_true rfl⟩ d_Mo_pack_213 (Nat.le_of_ble_eq_true rfl) (fun r n2 M2 hp => ?_)
        obtain ⟨rfl, hq1, iP22, fP22⟩ := hp
        replace hq1 := hq1.symm
        subst hq1
        revert iP22 fP22
        generalize M2 = P22
        intro iP22 fP22
        rw [k8] at iP22
        have hRP22 := fjM_RP fP22 hRP21
        have hHP22 := fjM_rk fP22 hHP21
        have hAP22 := fjM_hr fP22 hAP21
        refine fm_cnt (z' := (0, 0)) rfl (fm_st (st' := []) rfl ?_)
        refine fm_iinc (v := nI (k + 1)) (lv' := [(4, .int (nI (k + 1))), (3, .int (nI A.2.2.length)), (0, .ref 586), (1, .int (nI gi)), (2, .int (nI kk))]) hc d_Mo_pack_216 rfl (nI_1 k) (by decide) rfl ?_
        refine fm_goto (tgt := 168) hc d_Mo_pack_219 rfl ?_
        refine fm_dropl (lv' := [(4, .int (nI (k + 1))), (3, .int (nI A.2.2.length)), (0, .ref 586), (1, .int (nI gi)), (2, .int (nI kk))]) (by simp) ?_
        exact ih _ ⟨by rw [fl_take hv, im_P, ← List.append_assoc, ← List.append_assoc]; exact iP22, (fjM_tr (fjM_tr i2 fP21) fP22)⟩
      · clear i1 i2 hRk hHk hAk
        obtain ⟨i1, i2⟩ := hI
        have hRk := fjM_RP i2 hR1
        have hHk := fjM_rk i2 hH1
        have hAk := fjM_hr i2 hA1
        have i1 : im_R Mk kk (im_B A) := by rw [List.take_length] at i1; rw [im_B, ← List.append_assoc, ← List.append_assoc]; exact i1
        have fin : ∀ {Mk : fm_M}, fj_M kk (fm_put1 Mr 586 45 (nI (128 * kk))) Mk → ∀ q j, ¬ (q = 627 ∧ 128 * kk ≤ j ∧ j < 128 * kk + 128) → ¬ (q = 586 ∧ (j = 45 ∨ j = 32)) → q ≠ 617 → q ≠ 618 → ¬ (q = 626 ∧ j = kk) → (fm_put1 Mk 626 kk (nI (im_B A).length)).1 q j = M.1 q j := by
          intro Mk i2 q j a1 a2 a3 a4 a5
          have e1 : (fm_put1 Mk 626 kk (nI (im_B A).length)).1 q j = Mk.1 q j := by
            by_cases g : q = 626
            · subst g
              exact p1_at (by omega)
            · exact p1_other g
          have e2 : (fm_put1 Mr 586 45 (nI (128 * kk))).1 q j = Mr.1 q j := by
            by_cases g : q = 586
            · subst g
              exact p1_at (by omega)
            · exact p1_other g
          exact e1.trans ((i2.2 q j a1 (by omega)).trans (e2.trans (hK.2 q j a3 a4 (by omega))))
        refine fm_iload hc d_Mo_pack_168 rfl ?_
        refine fm_iload_n hc d_Mo_pack_170 rfl rfl ?_
        refine fm_icmp_ge (tgt := 222) hc d_Mo_pack_171 rfl (fun _ => ?_) (fun g => absurd (nI_le (Nat.le_refl _) (by omega)) g)
        refine fm_aload_n hc d_Mo_pack_222 rfl rfl ?_
        refine fm_getR (k := 43) (q := 626) hc K_Mo d_Mo_pack_223 q_928 rfl (by decide) (by omega) (by decide) (by decide) (by decide) rfl (rp_long1 hRk) ?_
        refine fm_iload_n hc d_Mo_pack_226 rfl rfl ?_
        refine fm_aload_n hc d_Mo_pack_227 rfl rfl ?_
        refine fm_getI (k := 45) hc K_Mo d_Mo_pack_228 q_930 rfl (by decide) (by omega) (by decide) (by decide) (by decide) rfl ?_
        refine fm_top (congrArg Value.int i1.1) ?_
        refine fm_sipush (v := nI 128) hc d_Mo_pack_231 rfl ?_
        refine fm_iload_n hc d_Mo_pack_234 rfl rfl ?_
        refine fm_imul hc d_Mo_pack_235 ?_
        refine fm_top (congrArg Value.int (pk_mul 128 kk)) ?_
        refine fm_isub hc d_Mo_pack_236 ?_
        refine fm_top (congrArg Value.int (pk_sub (a := 128 * kk + (im_B A).length) (b := 128 * kk) (by omega))) ?_
        refine fm_top (congrArg Value.int (show nI (128 * kk + (im_B A).length - 128 * kk) = nI (im_B A).length from congrArg nI (by omega))) ?_
        refine fm_iast (j := kk) (len := 21) (v := nI ((im_B A).length)) hc 0 d_Mo_pack_237 (by decide) (by omega) (by decide) rfl (by omega) (by decide) ?_
        exact fm_vret hc hr d_Mo_pack_238 (Nat.le_refl _) (Nat.le_refl _) ⟨rfl, rfl, fun i v hv => (p1_other (by decide)).trans (i1.2 i v hv), p1_same _ _ _ _, i2.1.trans hK.1, fun q j a1 a2 a3 a4 a5 => fin i2 q j a1 a2 a3 a4 a5⟩
  · by_cases gz : A.1 7 = 0
    · refine fm_if_eq (tgt := 87) hc d_Mo_pack_80 rfl (fun _ => ?_) (fun g => absurd (congrArg nI gz) g)
      refine fm_iconst (v := nI 0) hc d_Mo_pack_87 rfl ?_
      refine fm_top (congrArg Value.int (show nI 0 = nI (A.1 7) by rw [gz])) ?_
      exact J _ rfl
    · refine fm_if_eq (tgt := 87) hc d_Mo_pack_80 rfl (fun g => absurd g (fun q => gz (nI_inj (a := A.1 7) (c := 0) (by omega) (by decide) q))) (fun _ => ?_)
      refine fm_iconst (v := nI 1) hc d_Mo_pack_83 rfl ?_
      refine fm_goto (tgt := 88) hc d_Mo_pack_84 rfl ?_
      refine fm_top (congrArg Value.int (show nI 1 = nI (A.1 7) by rw [show A.1 7 = 1 by omega])) ?_
      exact J _ rfl
