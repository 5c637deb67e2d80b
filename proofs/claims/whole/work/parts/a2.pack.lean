/-! THE CLASS: put, putValue, address, pack -/
def ms_L (n o : Nat) : Prop := 18 ≤ o ∧ o ≤ 58 ∧ o + 1 < n ∧ (fm_lay o).1 = 9 ∧ fm_lay (o + 1) = (102, 121)
/-- the message's bytes so far -/
def im_C (M : fm_M) (o : Nat) (bs : List Nat) : Prop := M.1 o 5 = nI bs.length ∧ ∀ i v, bs[i]? = some v → M.1 (o + 1) i = (nI v).toInt8.toInt32
def fi_M (o : Nat) (M M' : fm_M) : Prop := M'.2 = M.2 ∧ ∀ q j, q ≠ o + 1 → ¬ (q = o ∧ j = 5) → M'.1 q j = M.1 q j
theorem fiM_rf (o : Nat) (M : fm_M) : fi_M o M M := ⟨rfl, fun _ _ _ _ => rfl⟩
theorem fiM_tr {o : Nat} {M M1 M2 : fm_M} (h : fi_M o M M1) (g : fi_M o M1 M2) : fi_M o M M2 := ⟨g.1.trans h.1, fun q j a c => (g.2 q j a c).trans (h.2 q j a c)⟩
theorem ap_at {α : Type} {l : List α} {v w : α} {i : Nat} (h : (l ++ [v])[i]? = some w) : (i ≠ l.length ∧ l[i]? = some w) ∨ (i = l.length ∧ w = v) := by
  rcases Nat.lt_trichotomy i l.length with g | g | g
  · rw [List.getElem?_append_left g] at h
    exact Or.inl ⟨by omega, h⟩
  · subst g
    rw [List.getElem?_append_right (Nat.le_refl _), Nat.sub_self] at h
    exact Or.inr ⟨rfl, (Option.some.inj h).symm⟩
  · rw [List.getElem?_eq_none (by rw [List.length_append]; exact g)] at h
    cases h
theorem c_mput {l : Launch} {b : Nat} {x : Nat → Nat} {D : va_G} {dA : Nat → ClassId} {o ln : Nat} {u : Int32} {n : Nat} {M : fm_M} (hL : ms_L n o) (hp : M.2.2 o 7 = some (o + 1)) (hd : M.1 o 5 = nI ln) (h121 : ln < 121) : Met l y_Ms_put (Cond.code y_Ms_put b_Ms_put 2 none :: fm_T0) ({ frames := 0, cells := 0, slots := 0, locals := 0 }) (fm_Pc fm_lay fm_nf fm_fk fm_cl b x D dA (fm_tys dA) (fm_EX b x) false [.ref o, .int u] n M) (fm_Qc fm_lay fm_nf fm_fk fm_cl b x D dA (fun r n' M' => r = none ∧ n' = n ∧ M' = fm_put1 (fm_put1 M (o + 1) ln (vp_nar .byte u.toInt8.toInt32)) o 5 (nI (ln + 1)))) 0 0 (fm_A b) := by
  refine fm_enter (by decide) (Nat.le_of_ble_eq_true rfl) ?_
  intro p e s m args below meth c9 hc hr hnm hex htg
  have hl1 := hL.1
  have hl2 := hL.2.1
  have hl3 := hL.2.2.1
  refine fm_aload_n hc d_Ms_put_0 rfl rfl ?_
  refine fm_getI (k := 5) hc K_Ms d_Ms_put_1 q_60 rfl (by omega) (by omega) hL.2.2.2.1 (by decide) (by decide) rfl ?_
  refine fm_top (congrArg Value.int hd) ?_
  refine fm_bipush (v := nI 121) hc d_Ms_put_4 rfl ?_
  refine fm_icmp_ge (tgt := 30) hc d_Ms_put_6 rfl (fun g => absurd g (hnleB (a := 121) (c := ln) h121 (by omega))) (fun _ => ?_)
  refine fm_aload_n hc d_Ms_put_9 rfl rfl ?_
  refine fm_getR (k := 7) (q := o + 1) hc K_Ms d_Ms_put_10 q_62 rfl (by omega) (by omega) hL.2.2.2.1 (by decide) (by decide) rfl hp ?_
  refine fm_aload_n hc d_Ms_put_13 rfl rfl ?_
  refine fm_getI (k := 5) hc K_Ms d_Ms_put_14 q_60 rfl (by omega) (by omega) hL.2.2.2.1 (by decide) (by decide) rfl ?_
  refine fm_top (congrArg Value.int hd) ?_
  refine fm_iload_n hc d_Ms_put_17 rfl rfl ?_
  refine fm_i2b hc d_Ms_put_18 ?_
  refine fm_bast (j := ln) (len := 121) (v := u.toInt8.toInt32) hc 2 d_Ms_put_19 (by omega) (by omega) hL.2.2.2.2 rfl (by omega) (by decide) ?_
  refine fm_aload_n hc d_Ms_put_20 rfl rfl ?_
  refine fm_dup hc d_Ms_put_21 rfl ?_
  refine fm_getI (k := 5) hc K_Ms d_Ms_put_22 q_60 rfl (by omega) (by omega) hL.2.2.2.1 (by decide) (by decide) rfl ?_
  refine fm_top (congrArg Value.int ((p1_other (by omega)).trans hd)) ?_
  refine fm_iconst (v := nI 1) hc d_Ms_put_25 rfl ?_
  refine fm_iadd hc d_Ms_put_26 ?_
  refine fm_top (congrArg Value.int (nI_add ln 1)) ?_
  refine fm_putI (k := 5) (v := nI (ln + 1)) hc K_Ms d_Ms_put_27 q_60 rfl (by omega) (by omega) hL.2.2.2.1 (by decide) (by decide) rfl rfl rfl rfl ?_
  exact fm_vret hc hr d_Ms_put_30 (Nat.le_refl _) (Nat.le_refl _) ⟨rfl, rfl, rfl⟩
theorem imC_put {o v : Nat} {u : Int32} {bs : List Nat} {M : fm_M} (hu : u.toInt8 = (nI v).toInt8) (h : im_C M o bs) : im_C (fm_put1 (fm_put1 M (o + 1) bs.length (vp_nar .byte u.toInt8.toInt32)) o 5 (nI (bs.length + 1))) o (bs ++ [v]) := by
  refine ⟨by rw [p1_same, List.length_append]; rfl, fun i w hw => ?_⟩
  rw [p1_other (by omega), nar_i8, hu]
  rcases ap_at hw with ⟨g, h1⟩ | ⟨g, h1⟩
  · rw [p1_at g]; exact h.2 i w h1
  · rw [g, p1_same, h1]
theorem c_putB {l : Launch} {b : Nat} {x : Nat → Nat} {D : va_G} {dA : Nat → ClassId} {o v n : Nat} {u : Int32} {bs : List Nat} {M : fm_M} (hL : ms_L n o) (hp : M.2.2 o 7 = some (o + 1)) (hu : u.toInt8 = (nI v).toInt8) (h : im_C M o bs) (h121 : bs.length < 121) : Met l y_Ms_put (Cond.code y_Ms_put b_Ms_put 2 none :: fm_T0) ({ frames := 0, cells := 0, slots := 0, locals := 0 }) (fm_Pc fm_lay fm_nf fm_fk fm_cl b x D dA (fm_tys dA) (fm_EX b x) false [.ref o, .int u] n M) (fm_Qc fm_lay fm_nf fm_fk fm_cl b x D dA (fun r n' M' => r = none ∧ n' = n ∧ im_C M' o (bs ++ [v]) ∧ fi_M o M M')) 0 0 (fm_A b) :=
  fm_post (c_mput hL hp h.1 h121) (fun r n' M' q => ⟨q.1, q.2.1, by rw [q.2.2]; exact imC_put hu h, by rw [q.2.2]; exact ⟨rfl, fun q j a c => (show (fm_put1 _ o 5 _).1 q j = M.1 q j by
    by_cases g : q = o
    · subst g
      rw [p1_at (fun e => c ⟨rfl, e⟩), p1_other a]
    · rw [p1_other g, p1_other a])⟩⟩)
theorem c_putV1 {l : Launch} {b : Nat} {x : Nat → Nat} {D : va_G} {dA : Nat → ClassId} {o n : Nat} {y : Int32} {bs : List Nat} {M : fm_M} (hL : ms_L n o) (h7 : M.2.2 o 7 = some (o + 1)) (h : im_C M o bs) (h121 : bs.length + 5 ≤ 121) : Met l y_Ms_putValue (Cond.code y_Ms_putValue b_Ms_putValue 4 none :: fm_T0) ({ frames := 1, cells := 0, slots := 0, locals := 30 }) (fm_Pc fm_lay fm_nf fm_fk fm_cl b x D dA (fm_tys dA) (fm_EX b x) false [.ref o, .long y.toInt64] n M) (fm_Qc fm_lay fm_nf fm_fk fm_cl b x D dA (fun r n' M' => r = none ∧ n' = n ∧ im_C M' o (bs ++ im_V (.inl y)) ∧ fi_M o M M')) 0 0 (fm_A b) := by
  refine fm_enter (by decide) (Nat.le_of_ble_eq_true rfl) ?_
  intro p e s m args below meth c9 hc hr hnm hex htg
  have hl1 := hL.1
  have hl2 := hL.2.1
  have hl3 := hL.2.2.1
  refine fm_lload_n hc d_Ms_putValue_0 rfl rfl ?_
  refine fm_callSN (av := [.long y.toInt64]) (rest := []) (y := y_An_isPair) (bytes := b_An_isPair) hc fm_T0_good (fm_EX_st b x) hex q_427 q_1 (nx_14 hex) q_426 pd_An_isPair (c_isPair_no (vx_int y)) ⟨rfl, rfl, Nat.le_of_ble_eq_true rfl, Nat.le_of_ble_eq_true rfl⟩ ⟨Nat.le_of_ble_eq_true rfl, Nat.le_of_ble_eq_true rfl⟩ d_Ms_putValue_1 (Nat.le_of_ble_eq_true rfl) (fun r n2 M2 hp => ?_)
  obtain ⟨rfl, hq1, hq2⟩ := hp
  replace hq1 := hq1.symm
  replace hq2 := hq2.symm
  subst hq1 hq2
  refine fm_cnt (z' := (0, 0)) rfl (fm_st (st' := [.int (nI 0)]) rfl ?_)
  refine fm_if_eq (tgt := 23) hc d_Ms_putValue_4 rfl (fun _ => ?_) (fun g => absurd (by decide) g)
  refine fm_aload_n hc d_Ms_putValue_23 rfl rfl ?_
  refine fm_iconst (v := nI 0) hc d_Ms_putValue_24 rfl ?_
  refine fm_callV (av := [.int (nI 0)]) (rest := []) (ob := o) (ci := 9) (r0 := ("AgentNet$Message", F_Ms, 8)) (y := y_Ms_put) (bytes := b_Ms_put) hc fm_T0_good (fm_EX_st b x) hex q_741 q_3 q_738 q_740 qs_Ms_put pd_Ms_put (by omega) (by omega) hL.2.2.2.1 (by decide) rfl rfl (c_putB (v := 0) hL h7 rfl h (by first | omega | (simp only [List.length_append, List.length_cons, List.length_nil]; omega))) ⟨rfl, rfl, Nat.le_of_ble_eq_true rfl, Nat.le_of_ble_eq_true rfl⟩ ⟨Nat.le_of_ble_eq_true rfl, Nat.le_of_ble_eq_true rfl⟩ d_Ms_putValue_25 (Nat.le_of_ble_eq_true rfl) (fun r n2 M2 hp => ?_)
  obtain ⟨rfl, hq1, i1, f1⟩ := hp
  replace hq1 := hq1.symm
  subst hq1
  revert i1 f1
  generalize M2 = P1
  intro i1 f1
  have hp1 : P1.2.2 o 7 = some (o + 1) := by rw [f1.1]; exact h7
  refine fm_cnt (z' := (0, 0)) rfl (fm_st (st' := []) rfl ?_)
  refine fm_bipush (v := nI 24) hc d_Ms_putValue_28 rfl ?_
  refine fm_istore_n (lv' := [(3, .int (nI 24)), (0, .ref o), (1, .long y.toInt64)]) hc d_Ms_putValue_30 rfl (by decide) rfl ?_
  refine fm_iload_n hc d_Ms_putValue_31 rfl rfl ?_
  refine fm_if_lt (tgt := 49) hc d_Ms_putValue_32 rfl (fun g => absurd g (by decide)) (fun _ => ?_)
  refine fm_aload_n hc d_Ms_putValue_35 rfl rfl ?_
  refine fm_lload_n hc d_Ms_putValue_36 rfl rfl ?_
  refine fm_l2i hc d_Ms_putValue_37 ?_
  refine fm_top (congrArg Value.int (vx_low y)) ?_
  refine fm_iload_n hc d_Ms_putValue_38 rfl rfl ?_
  refine fm_ishr hc d_Ms_putValue_39 ?_
  refine fm_callV (av := [.int (y >>> (nI 24 &&& 31))]) (rest := []) (ob := o) (ci := 9) (r0 := ("AgentNet$Message", F_Ms, 8)) (y := y_Ms_put) (bytes := b_Ms_put) hc fm_T0_good (fm_EX_st b x) hex q_741 q_3 q_738 q_740 qs_Ms_put pd_Ms_put (by omega) (by omega) hL.2.2.2.1 (by decide) rfl rfl (c_putB (v := by8 24 y) hL hp1 (by8_c24 y) i1 (by first | omega | (simp only [List.length_append, List.length_cons, List.length_nil]; omega))) ⟨rfl, rfl, Nat.le_of_ble_eq_true rfl, Nat.le_of_ble_eq_true rfl⟩ ⟨Nat.le_of_ble_eq_true rfl, Nat.le_of_ble_eq_true rfl⟩ d_Ms_putValue_40 (Nat.le_of_ble_eq_true rfl) (fun r n2 M2 hp => ?_)
  obtain ⟨rfl, hq1, i2, f2⟩ := hp
  replace hq1 := hq1.symm
  subst hq1
  revert i2 f2
  generalize M2 = P2
  intro i2 f2
  have hp2 : P2.2.2 o 7 = some (o + 1) := by rw [f2.1]; exact hp1
  refine fm_cnt (z' := (0, 0)) rfl (fm_st (st' := []) rfl ?_)
  refine fm_iinc (v := nI 16) (lv' := [(3, .int (nI 16)), (0, .ref o), (1, .long y.toInt64)]) hc d_Ms_putValue_43 rfl (by decide) (by decide) rfl ?_
  refine fm_goto (tgt := 31) hc d_Ms_putValue_46 rfl ?_
  refine fm_iload_n hc d_Ms_putValue_31 rfl rfl ?_
  refine fm_if_lt (tgt := 49) hc d_Ms_putValue_32 rfl (fun g => absurd g (by decide)) (fun _ => ?_)
  refine fm_aload_n hc d_Ms_putValue_35 rfl rfl ?_
  refine fm_lload_n hc d_Ms_putValue_36 rfl rfl ?_
  refine fm_l2i hc d_Ms_putValue_37 ?_
  refine fm_top (congrArg Value.int (vx_low y)) ?_
  refine fm_iload_n hc d_Ms_putValue_38 rfl rfl ?_
  refine fm_ishr hc d_Ms_putValue_39 ?_
  refine fm_callV (av := [.int (y >>> (nI 16 &&& 31))]) (rest := []) (ob := o) (ci := 9) (r0 := ("AgentNet$Message", F_Ms, 8)) (y := y_Ms_put) (bytes := b_Ms_put) hc fm_T0_good (fm_EX_st b x) hex q_741 q_3 q_738 q_740 qs_Ms_put pd_Ms_put (by omega) (by omega) hL.2.2.2.1 (by decide) rfl rfl (c_putB (v := by8 16 y) hL hp2 (by8_c16 y) i2 (by first | omega | (simp only [List.length_append, List.length_cons, List.length_nil]; omega))) ⟨rfl, rfl, Nat.le_of_ble_eq_true rfl, Nat.le_of_ble_eq_true rfl⟩ ⟨Nat.le_of_ble_eq_true rfl, Nat.le_of_ble_eq_true rfl⟩ d_Ms_putValue_40 (Nat.le_of_ble_eq_true rfl) (fun r n2 M2 hp => ?_)
  obtain ⟨rfl, hq1, i3, f3⟩ := hp
  replace hq1 := hq1.symm
  subst hq1
  revert i3 f3
  generalize M2 = P3
  intro i3 f3
  have hp3 : P3.2.2 o 7 = some (o + 1) := by rw [f3.1]; exact hp2
  refine fm_cnt (z' := (0, 0)) rfl (fm_st (st' := []) rfl ?_)
  refine fm_iinc (v := nI 8) (lv' := [(3, .int (nI 8)), (0, .ref o), (1, .long y.toInt64)]) hc d_Ms_putValue_43 rfl (by decide) (by decide) rfl ?_
  refine fm_goto (tgt := 31) hc d_Ms_putValue_46 rfl ?_
  refine fm_iload_n hc d_Ms_putValue_31 rfl rfl ?_
  refine fm_if_lt (tgt := 49) hc d_Ms_putValue_32 rfl (fun g => absurd g (by decide)) (fun _ => ?_)
  refine fm_aload_n hc d_Ms_putValue_35 rfl rfl ?_
  refine fm_lload_n hc d_Ms_putValue_36 rfl rfl ?_
  refine fm_l2i hc d_Ms_putValue_37 ?_
  refine fm_top (congrArg Value.int (vx_low y)) ?_
  refine fm_iload_n hc d_Ms_putValue_38 rfl rfl ?_
  refine fm_ishr hc d_Ms_putValue_39 ?_
  refine fm_callV (av := [.int (y >>> (nI 8 &&& 31))]) (rest := []) (ob := o) (ci := 9) (r0 := ("AgentNet$Message", F_Ms, 8)) (y := y_Ms_put) (bytes := b_Ms_put) hc fm_T0_good (fm_EX_st b x) hex q_741 q_3 q_738 q_740 qs_Ms_put pd_Ms_put (by omega) (by omega) hL.2.2.2.1 (by decide) rfl rfl (c_putB (v := by8 8 y) hL hp3 (by8_c8 y) i3 (by first | omega | (simp only [List.length_append, List.length_cons, List.length_nil]; omega))) ⟨rfl, rfl, Nat.le_of_ble_eq_true rfl, Nat.le_of_ble_eq_true rfl⟩ ⟨Nat.le_of_ble_eq_true rfl, Nat.le_of_ble_eq_true rfl⟩ d_Ms_putValue_40 (Nat.le_of_ble_eq_true rfl) (fun r n2 M2 hp => ?_)
  obtain ⟨rfl, hq1, i4, f4⟩ := hp
  replace hq1 := hq1.symm
  subst hq1
  revert i4 f4
  generalize M2 = P4
  intro i4 f4
  have hp4 : P4.2.2 o 7 = some (o + 1) := by rw [f4.1]; exact hp3
  refine fm_cnt (z' := (0, 0)) rfl (fm_st (st' := []) rfl ?_)
  refine fm_iinc (v := nI 0) (lv' := [(3, .int (nI 0)), (0, .ref o), (1, .long y.toInt64)]) hc d_Ms_putValue_43 rfl (by decide) (by decide) rfl ?_
  refine fm_goto (tgt := 31) hc d_Ms_putValue_46 rfl ?_
  refine fm_iload_n hc d_Ms_putValue_31 rfl rfl ?_
  refine fm_if_lt (tgt := 49) hc d_Ms_putValue_32 rfl (fun g => absurd g (by decide)) (fun _ => ?_)
  refine fm_aload_n hc d_Ms_putValue_35 rfl rfl ?_
  refine fm_lload_n hc d_Ms_putValue_36 rfl rfl ?_
  refine fm_l2i hc d_Ms_putValue_37 ?_
  refine fm_top (congrArg Value.int (vx_low y)) ?_
  refine fm_iload_n hc d_Ms_putValue_38 rfl rfl ?_
  refine fm_ishr hc d_Ms_putValue_39 ?_
  refine fm_callV (av := [.int (y >>> (nI 0 &&& 31))]) (rest := []) (ob := o) (ci := 9) (r0 := ("AgentNet$Message", F_Ms, 8)) (y := y_Ms_put) (bytes := b_Ms_put) hc fm_T0_good (fm_EX_st b x) hex q_741 q_3 q_738 q_740 qs_Ms_put pd_Ms_put (by omega) (by omega) hL.2.2.2.1 (by decide) rfl rfl (c_putB (v := by8 0 y) hL hp4 (by8_c0 y) i4 (by first | omega | (simp only [List.length_append, List.length_cons, List.length_nil]; omega))) ⟨rfl, rfl, Nat.le_of_ble_eq_true rfl, Nat.le_of_ble_eq_true rfl⟩ ⟨Nat.le_of_ble_eq_true rfl, Nat.le_of_ble_eq_true rfl⟩ d_Ms_putValue_40 (Nat.le_of_ble_eq_true rfl) (fun r n2 M2 hp => ?_)
  obtain ⟨rfl, hq1, i5, f5⟩ := hp
  replace hq1 := hq1.symm
  subst hq1
  revert i5 f5
  generalize M2 = P5
  intro i5 f5
  have hp5 : P5.2.2 o 7 = some (o + 1) := by rw [f5.1]; exact hp4
  refine fm_cnt (z' := (0, 0)) rfl (fm_st (st' := []) rfl ?_)
  refine fm_iinc (v := (-8)) (lv' := [(3, .int ((-8))), (0, .ref o), (1, .long y.toInt64)]) hc d_Ms_putValue_43 rfl (by decide) (by decide) rfl ?_
  refine fm_goto (tgt := 31) hc d_Ms_putValue_46 rfl ?_
  refine fm_iload_n hc d_Ms_putValue_31 rfl rfl ?_
  refine fm_if_lt (tgt := 49) hc d_Ms_putValue_32 rfl (fun _ => ?_) (fun g => absurd (by decide) g)
  exact fm_vret hc hr d_Ms_putValue_49 (Nat.le_refl _) (Nat.le_refl _) ⟨rfl, rfl, by simpa [im_V] using i5, fiM_tr (fiM_tr (fiM_tr (fiM_tr f1 f2) f3) f4) f5⟩
theorem c_putV2 {l : Launch} {b : Nat} {x : Nat → Nat} {D : va_G} {dA : Nat → ClassId} {o k n : Nat} {bs : List Nat} {M : fm_M} (hL : ms_L n o) (h7 : M.2.2 o 7 = some (o + 1)) (hk : k < 16) (h : im_C M o bs) (h121 : bs.length + 5 ≤ 121) : Met l y_Ms_putValue (Cond.code y_Ms_putValue b_Ms_putValue 4 none :: fm_T0) ({ frames := 1, cells := 0, slots := 0, locals := 30 }) (fm_Pc fm_lay fm_nf fm_fk fm_cl b x D dA (fm_tys dA) (fm_EX b x) false [.ref o, .long (1099511627776 + (nI k).toInt64)] n M) (fm_Qc fm_lay fm_nf fm_fk fm_cl b x D dA (fun r n' M' => r = none ∧ n' = n ∧ im_C M' o (bs ++ im_V (.inr k)) ∧ fi_M o M M')) 0 0 (fm_A b) := by
  refine fm_enter (by decide) (Nat.le_of_ble_eq_true rfl) ?_
  intro p e s m args below meth c9 hc hr hnm hex htg
  have hl1 := hL.1
  have hl2 := hL.2.1
  have hl3 := hL.2.2.1
  refine fm_lload_n hc d_Ms_putValue_0 rfl rfl ?_
  refine fm_callSN (av := [.long (1099511627776 + (nI k).toInt64)]) (rest := []) (y := y_An_isPair) (bytes := b_An_isPair) hc fm_T0_good (fm_EX_st b x) hex q_427 q_1 (nx_14 hex) q_426 pd_An_isPair (c_isPair_ok (vx_pair k hk)) ⟨rfl, rfl, Nat.le_of_ble_eq_true rfl, Nat.le_of_ble_eq_true rfl⟩ ⟨Nat.le_of_ble_eq_true rfl, Nat.le_of_ble_eq_true rfl⟩ d_Ms_putValue_1 (Nat.le_of_ble_eq_true rfl) (fun r n2 M2 hp => ?_)
  obtain ⟨rfl, hq1, hq2⟩ := hp
  replace hq1 := hq1.symm
  replace hq2 := hq2.symm
  subst hq1 hq2
  refine fm_cnt (z' := (0, 0)) rfl (fm_st (st' := [.int (nI 1)]) rfl ?_)
  refine fm_if_eq (tgt := 23) hc d_Ms_putValue_4 rfl (fun g => absurd g (by decide)) (fun _ => ?_)
  refine fm_aload_n hc d_Ms_putValue_7 rfl rfl ?_
  refine fm_iconst (v := nI 1) hc d_Ms_putValue_8 rfl ?_
  refine fm_callV (av := [.int (nI 1)]) (rest := []) (ob := o) (ci := 9) (r0 := ("AgentNet$Message", F_Ms, 8)) (y := y_Ms_put) (bytes := b_Ms_put) hc fm_T0_good (fm_EX_st b x) hex q_741 q_3 q_738 q_740 qs_Ms_put pd_Ms_put (by omega) (by omega) hL.2.2.2.1 (by decide) rfl rfl (c_putB (v := 1) hL h7 rfl h (by first | omega | (simp only [List.length_append, List.length_cons, List.length_nil]; omega))) ⟨rfl, rfl, Nat.le_of_ble_eq_true rfl, Nat.le_of_ble_eq_true rfl⟩ ⟨Nat.le_of_ble_eq_true rfl, Nat.le_of_ble_eq_true rfl⟩ d_Ms_putValue_9 (Nat.le_of_ble_eq_true rfl) (fun r n2 M2 hp => ?_)
  obtain ⟨rfl, hq1, i6, f6⟩ := hp
  replace hq1 := hq1.symm
  subst hq1
  revert i6 f6
  generalize M2 = P6
  intro i6 f6
  have hp6 : P6.2.2 o 7 = some (o + 1) := by rw [f6.1]; exact h7
  refine fm_cnt (z' := (0, 0)) rfl (fm_st (st' := []) rfl ?_)
  refine fm_aload_n hc d_Ms_putValue_12 rfl rfl ?_
  refine fm_lload_n hc d_Ms_putValue_13 rfl rfl ?_
  refine fm_ldc2 (v := 1099511627776) hc d_Ms_putValue_14 q_747 ?_
  refine fm_lsub hc d_Ms_putValue_17 ?_
  refine fm_l2i hc d_Ms_putValue_18 ?_
  refine fm_top (congrArg Value.int (vx_idx k hk)) ?_
  refine fm_callV (av := [.int (nI k)]) (rest := []) (ob := o) (ci := 9) (r0 := ("AgentNet$Message", F_Ms, 8)) (y := y_Ms_put) (bytes := b_Ms_put) hc fm_T0_good (fm_EX_st b x) hex q_741 q_3 q_738 q_740 qs_Ms_put pd_Ms_put (by omega) (by omega) hL.2.2.2.1 (by decide) rfl rfl (c_putB (v := k) hL hp6 rfl i6 (by first | omega | (simp only [List.length_append, List.length_cons, List.length_nil]; omega))) ⟨rfl, rfl, Nat.le_of_ble_eq_true rfl, Nat.le_of_ble_eq_true rfl⟩ ⟨Nat.le_of_ble_eq_true rfl, Nat.le_of_ble_eq_true rfl⟩ d_Ms_putValue_19 (Nat.le_of_ble_eq_true rfl) (fun r n2 M2 hp => ?_)
  obtain ⟨rfl, hq1, i7, f7⟩ := hp
  replace hq1 := hq1.symm
  subst hq1
  revert i7 f7
  generalize M2 = P7
  intro i7 f7
  have hp7 : P7.2.2 o 7 = some (o + 1) := by rw [f7.1]; exact hp6
  refine fm_cnt (z' := (0, 0)) rfl (fm_st (st' := []) rfl ?_)
  exact fm_vret hc hr d_Ms_putValue_22 (Nat.le_refl _) (Nat.le_refl _) ⟨rfl, rfl, by simpa [im_V] using i7, fiM_tr f6 f7⟩
theorem c_putV {l : Launch} {b : Nat} {x : Nat → Nat} {D : va_G} {dA : Nat → ClassId} {o n : Nat} {v : bf_V} {bs : List Nat} {M : fm_M} (hL : ms_L n o) (h7 : M.2.2 o 7 = some (o + 1)) (hv : e_ok v) (h : im_C M o bs) (h121 : bs.length + 5 ≤ 121) : Met l y_Ms_putValue (Cond.code y_Ms_putValue b_Ms_putValue 4 none :: fm_T0) ({ frames := 1, cells := 0, slots := 0, locals := 30 }) (fm_Pc fm_lay fm_nf fm_fk fm_cl b x D dA (fm_tys dA) (fm_EX b x) false [.ref o, .long (e64 v)] n M) (fm_Qc fm_lay fm_nf fm_fk fm_cl b x D dA (fun r n' M' => r = none ∧ n' = n ∧ im_C M' o (bs ++ im_V v) ∧ fi_M o M M')) 0 0 (fm_A b) := by
  cases v with
  | inl y => exact c_putV1 hL h7 h h121
  | inr k => exact c_putV2 hL h7 hv h h121
theorem c_address {l : Launch} {b : Nat} {x : Nat → Nat} {D : va_G} {dA : Nat → ClassId} {o : Nat} {u u2 u3 u4 : Int32} {n : Nat} {M : fm_M} (hL : ms_L n o) : Met l y_Ms_address (Cond.code y_Ms_address b_Ms_address 5 none :: fm_T0) ({ frames := 0, cells := 0, slots := 0, locals := 0 }) (fm_Pc fm_lay fm_nf fm_fk fm_cl b x D dA (fm_tys dA) (fm_EX b x) false [.ref o, .int u, .int u2, .int u3, .int u4] n M) (fm_Qc fm_lay fm_nf fm_fk fm_cl b x D dA (fun r n' M' => r = none ∧ n' = n ∧ M' = fm_put1 (fm_put1 (fm_put1 (fm_put1 (fm_put1 (fm_put1 M o 0 (nI 0)) o 1 u) o 2 u2) o 3 u3) o 4 u4) o 5 (nI 0))) 0 0 (fm_A b) := by
  refine fm_enter (by decide) (Nat.le_of_ble_eq_true rfl) ?_
  intro p e s m args below meth c9 hc hr hnm hex htg
  have hl1 := hL.1
  have hl2 := hL.2.1
  have hl3 := hL.2.2.1
  refine fm_aload_n hc d_Ms_address_0 rfl rfl ?_
  refine fm_iconst (v := nI 0) hc d_Ms_address_1 rfl ?_
  refine fm_putI (k := 0) (v := nI 0) hc K_Ms d_Ms_address_2 q_50 rfl (by omega) (by omega) hL.2.2.2.1 (by decide) (by decide) rfl rfl rfl rfl ?_
  refine fm_aload_n hc d_Ms_address_5 rfl rfl ?_
  refine fm_iload_n hc d_Ms_address_6 rfl rfl ?_
  refine fm_putI (k := 1) (v := u) hc K_Ms d_Ms_address_7 q_52 rfl (by omega) (by omega) hL.2.2.2.1 (by decide) (by decide) rfl rfl rfl rfl ?_
  refine fm_aload_n hc d_Ms_address_10 rfl rfl ?_
  refine fm_iload_n hc d_Ms_address_11 rfl rfl ?_
  refine fm_putI (k := 2) (v := u2) hc K_Ms d_Ms_address_12 q_54 rfl (by omega) (by omega) hL.2.2.2.1 (by decide) (by decide) rfl rfl rfl rfl ?_
  refine fm_aload_n hc d_Ms_address_15 rfl rfl ?_
  refine fm_iload_n hc d_Ms_address_16 rfl rfl ?_
  refine fm_putI (k := 3) (v := u3) hc K_Ms d_Ms_address_17 q_56 rfl (by omega) (by omega) hL.2.2.2.1 (by decide) (by decide) rfl rfl rfl rfl ?_
  refine fm_aload_n hc d_Ms_address_20 rfl rfl ?_
  refine fm_iload hc d_Ms_address_21 rfl ?_
  refine fm_putI (k := 4) (v := u4) hc K_Ms d_Ms_address_23 q_58 rfl (by omega) (by omega) hL.2.2.2.1 (by decide) (by decide) rfl rfl rfl rfl ?_
  refine fm_aload_n hc d_Ms_address_26 rfl rfl ?_
  refine fm_iconst (v := nI 0) hc d_Ms_address_27 rfl ?_
  refine fm_putI (k := 5) (v := nI 0) hc K_Ms d_Ms_address_28 q_60 rfl (by omega) (by omega) hL.2.2.2.1 (by decide) (by decide) rfl rfl rfl rfl ?_
  exact fm_vret hc hr d_Ms_address_31 (Nat.le_refl _) (Nat.le_refl _) ⟨rfl, rfl, rfl⟩
