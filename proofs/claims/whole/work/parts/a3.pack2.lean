/-! THE CLASS: pack -/
section FMJ
variable {p : Program} {l : Launch} {e : Env} {R : Room} {s : State} {m : MethodId} {args : Array Value} {below : List Frame} {meth : Method} {c : Code} {Q : State → Prop}
variable {lay : Nat → Nat × Nat} {nf : Nat → Nat} {fk : Nat → Nat → Nat} {cl : List vw_C} {b : Nat} {x : Nat → Nat} {D : va_G} {dA : Nat → ClassId} {nL : Nat}
variable {n : Nat} {z : Nat × Nat}
/-- roads that come together -/
theorem fm_join (pc2 : Nat) (lv2 : List (Nat × Value)) (st2 : List Value) (I : fm_M → Prop) {pc : Nat} {lv : List (Nat × Value)} {st : List Value} {M : fm_M} (rest : ∀ M', I M' → fm_G p l e R s m args below meth c Q lay nf fk cl b x D dA nL pc2 lv2 st2 n M' z) (k : (∀ M', I M' → fm_G p l e R s m args below meth c Q lay nf fk cl b x D dA nL pc2 lv2 st2 n M' z) → fm_G p l e R s m args below meth c Q lay nf fk cl b x D dA nL pc lv st n M z) : fm_G p l e R s m args below meth c Q lay nf fk cl b x D dA nL pc lv st n M z := k rest
end FMJ
theorem hcA_fi {o t : Nat} {M M' : fm_M} {A : ag_T} (ho : o ≤ 58) (ht : 65 < t) (f : fi_M o M M') (h : hc_A M t A) : hc_A M' t A := by
  obtain ⟨h1, h2, h3, h4, h5⟩ := h
  have e : ∀ j, M'.1 t j = M.1 t j := fun j => f.2 t j (by omega) (by omega)
  refine ⟨fun k hk => (e k).trans (h1 k hk), (e 8).trans h2, (e 9).trans h3, fun k v hv => ?_, fun k q hq => ?_⟩
  · rw [f.1]; exact h4 k v hv
  · rw [f.1]; exact h5 k q hq
theorem c_pack {l : Launch} {b : Nat} {x : Nat → Nat} {D : va_G} {dA : Nat → ClassId} {o t n : Nat} {A : ag_T} {M : fm_M} (hL : ms_L n o) (h7 : M.2.2 o 7 = some (o + 1)) (hT : tr_L n t) (hq : tr_P M t) (h : hc_A M t A) (ok : ag_ok A) (hf : A.1 3 < 256) (hb : A.1 7 ≤ 1) (h0 : M.1 o 5 = nI 0) : Met l y_Ms_pack (Cond.code y_Ms_pack b_Ms_pack 3 none :: fm_T0) ({ frames := 2, cells := 0, slots := 0, locals := 60 }) (fm_Pc fm_lay fm_nf fm_fk fm_cl b x D dA (fm_tys dA) (fm_EX b x) false [.ref o, .ref t] n M) (fm_Qc fm_lay fm_nf fm_fk fm_cl b x D dA (fun r n' M' => r = none ∧ n' = n ∧ im_C M' o (im_B A) ∧ fi_M o (fm_put1 M o 0 (nI 1)) M')) 0 0 (fm_A b) := by
  refine fm_enter (by decide) (Nat.le_of_ble_eq_true rfl) ?_
  intro p e s m args below meth c9 hc hr hnm hex htg
  have hl1 := hL.1
  have hl2 := hL.2.1
  have hl3 := hL.2.2.1
  have ht1 := hT.1
  have ht2 := hT.2.1
  have ok1 := ok.1
  have ok2 := ok.2.1
  have hA0 : hc_A (fm_put1 M o 0 (nI 1)) t A := hcA_o1 (by omega) h
  have hi0 : im_C (fm_put1 M o 0 (nI 1)) o [] := ⟨(p1_at (by decide)).trans h0, fun i v hv => by simp at hv⟩
  refine fm_aload_n hc d_Ms_pack_0 rfl rfl ?_
  refine fm_iconst (v := nI 1) hc d_Ms_pack_1 rfl ?_
  refine fm_putI (k := 0) (v := nI 1) hc K_Ms d_Ms_pack_2 q_50 rfl (by omega) (by omega) hL.2.2.2.1 (by decide) (by decide) rfl rfl rfl rfl ?_
  refine fm_mem (M' := fm_put1 M o 0 (nI 1)) rfl rfl ?_
  refine fm_aload_n hc d_Ms_pack_5 rfl rfl ?_
  refine fm_aload_n hc d_Ms_pack_6 rfl rfl ?_
  refine fm_getI (k := 0) hc K_Tr d_Ms_pack_7 q_173 rfl (by omega) (by omega) hT.2.2.1 (by decide) (by decide) rfl ?_
  refine fm_top (congrArg Value.int (hA0.1 0 (by decide))) ?_
  refine fm_callV (av := [.int (nI (A.1 0))]) (rest := []) (ob := o) (ci := 9) (r0 := ("AgentNet$Message", F_Ms, 8)) (y := y_Ms_put) (bytes := b_Ms_put) hc fm_T0_good (fm_EX_st b x) hex q_741 q_3 q_738 q_740 qs_Ms_put pd_Ms_put (by omega) (by omega) hL.2.2.2.1 (by decide) rfl rfl (c_putB (v := A.1 0) hL h7 rfl hi0 (by first | omega | (simp only [List.length_append, List.length_cons, List.length_nil]; omega))) ⟨rfl, rfl, Nat.le_of_ble_eq_true rfl, Nat.le_of_ble_eq_true rfl⟩ ⟨Nat.le_of_ble_eq_true rfl, Nat.le_of_ble_eq_true rfl⟩ d_Ms_pack_10 (Nat.le_of_ble_eq_true rfl) (fun r n2 M2 hp => ?_)
  obtain ⟨rfl, hq1, iP1, fP1⟩ := hp
  replace hq1 := hq1.symm
  subst hq1
  revert iP1 fP1
  generalize M2 = P1
  intro iP1 fP1
  have h7P1 : P1.2.2 o 7 = some (o + 1) := by rw [fP1.1]; exact h7
  have hAP1 := hcA_fi hl2 (by omega) fP1 hA0
  have hqP1 : tr_P P1 t := by unfold tr_P; rw [fP1.1]; exact hq
  refine fm_cnt (z' := (0, 0)) rfl (fm_st (st' := []) rfl ?_)
  refine fm_aload_n hc d_Ms_pack_13 rfl rfl ?_
  refine fm_aload_n hc d_Ms_pack_14 rfl rfl ?_
  refine fm_getI (k := 1) hc K_Tr d_Ms_pack_15 q_178 rfl (by omega) (by omega) hT.2.2.1 (by decide) (by decide) rfl ?_
  refine fm_top (congrArg Value.int (hAP1.1 1 (by decide))) ?_
  refine fm_callV (av := [.int (nI (A.1 1))]) (rest := []) (ob := o) (ci := 9) (r0 := ("AgentNet$Message", F_Ms, 8)) (y := y_Ms_put) (bytes := b_Ms_put) hc fm_T0_good (fm_EX_st b x) hex q_741 q_3 q_738 q_740 qs_Ms_put pd_Ms_put (by omega) (by omega) hL.2.2.2.1 (by decide) rfl rfl (c_putB (v := A.1 1) hL h7P1 rfl iP1 (by first | omega | (simp only [List.length_append, List.length_cons, List.length_nil]; omega))) ⟨rfl, rfl, Nat.le_of_ble_eq_true rfl, Nat.le_of_ble_eq_true rfl⟩ ⟨Nat.le_of_ble_eq_true rfl, Nat.le_of_ble_eq_true rfl⟩ d_Ms_pack_18 (Nat.le_of_ble_eq_true rfl) (fun r n2 M2 hp => ?_)
  obtain ⟨rfl, hq1, iP2, fP2⟩ := hp
  replace hq1 := hq1.symm
  subst hq1
  revert iP2 fP2
  generalize M2 = P2
  intro iP2 fP2
  have h7P2 : P2.2.2 o 7 = some (o + 1) := by rw [fP2.1]; exact h7P1
  have hAP2 := hcA_fi hl2 (by omega) fP2 hAP1
  have hqP2 : tr_P P2 t := by unfold tr_P; rw [fP2.1]; exact hqP1
  refine fm_cnt (z' := (0, 0)) rfl (fm_st (st' := []) rfl ?_)
  refine fm_aload_n hc d_Ms_pack_21 rfl rfl ?_
  refine fm_aload_n hc d_Ms_pack_22 rfl rfl ?_
  refine fm_getI (k := 2) hc K_Tr d_Ms_pack_23 q_182 rfl (by omega) (by omega) hT.2.2.1 (by decide) (by decide) rfl ?_
  refine fm_top (congrArg Value.int (hAP2.1 2 (by decide))) ?_
  refine fm_callV (av := [.int (nI (A.1 2))]) (rest := []) (ob := o) (ci := 9) (r0 := ("AgentNet$Message", F_Ms, 8)) (y := y_Ms_put) (bytes := b_Ms_put) hc fm_T0_good (fm_EX_st b x) hex q_741 q_3 q_738 q_740 qs_Ms_put pd_Ms_put (by omega) (by omega) hL.2.2.2.1 (by decide) rfl rfl (c_putB (v := A.1 2) hL h7P2 rfl iP2 (by first | omega | (simp only [List.length_append, List.length_cons, List.length_nil]; omega))) ⟨rfl, rfl, Nat.le_of_ble_eq_true rfl, Nat.le_of_ble_eq_true rfl⟩ ⟨Nat.le_of_ble_eq_true rfl, Nat.le_of_ble_eq_true rfl⟩ d_Ms_pack_26 (Nat.le_of_ble_eq_true rfl) (fun r n2 M2 hp => ?_)
  obtain ⟨rfl, hq1, iP3, fP3⟩ := hp
  replace hq1 := hq1.symm
  subst hq1
  revert iP3 fP3
  generalize M2 = P3
  intro iP3 fP3
  have h7P3 : P3.2.2 o 7 = some (o + 1) := by rw [fP3.1]; exact h7P2
  have hAP3 := hcA_fi hl2 (by omega) fP3 hAP2
  have hqP3 : tr_P P3 t := by unfold tr_P; rw [fP3.1]; exact hqP2
  refine fm_cnt (z' := (0, 0)) rfl (fm_st (st' := []) rfl ?_)
  refine fm_aload_n hc d_Ms_pack_29 rfl rfl ?_
  refine fm_aload_n hc d_Ms_pack_30 rfl rfl ?_
  refine fm_getI (k := 4) hc K_Tr d_Ms_pack_31 q_190 rfl (by omega) (by omega) hT.2.2.1 (by decide) (by decide) rfl ?_
  refine fm_top (congrArg Value.int (hAP3.1 4 (by decide))) ?_
  refine fm_callV (av := [.int (nI (A.1 4))]) (rest := []) (ob := o) (ci := 9) (r0 := ("AgentNet$Message", F_Ms, 8)) (y := y_Ms_put) (bytes := b_Ms_put) hc fm_T0_good (fm_EX_st b x) hex q_741 q_3 q_738 q_740 qs_Ms_put pd_Ms_put (by omega) (by omega) hL.2.2.2.1 (by decide) rfl rfl (c_putB (v := A.1 4) hL h7P3 rfl iP3 (by first | omega | (simp only [List.length_append, List.length_cons, List.length_nil]; omega))) ⟨rfl, rfl, Nat.le_of_ble_eq_true rfl, Nat.le_of_ble_eq_true rfl⟩ ⟨Nat.le_of_ble_eq_true rfl, Nat.le_of_ble_eq_true rfl⟩ d_Ms_pack_34 (Nat.le_of_ble_eq_true rfl) (fun r n2 M2 hp => ?_)
  obtain ⟨rfl, hq1, iP4, fP4⟩ := hp
  replace hq1 := hq1.symm
  subst hq1
  revert iP4 fP4
  generalize M2 = P4
  intro iP4 fP4
  have h7P4 : P4.2.2 o 7 = some (o + 1) := by rw [fP4.1]; exact h7P3
  have hAP4 := hcA_fi hl2 (by omega) fP4 hAP3
  have hqP4 : tr_P P4 t := by unfold tr_P; rw [fP4.1]; exact hqP3
  refine fm_cnt (z' := (0, 0)) rfl (fm_st (st' := []) rfl ?_)
  refine fm_aload_n hc d_Ms_pack_37 rfl rfl ?_
  refine fm_aload_n hc d_Ms_pack_38 rfl rfl ?_
  refine fm_getI (k := 5) hc K_Tr d_Ms_pack_39 q_196 rfl (by omega) (by omega) hT.2.2.1 (by decide) (by decide) rfl ?_
  refine fm_top (congrArg Value.int (hAP4.1 5 (by decide))) ?_
  refine fm_callV (av := [.int (nI (A.1 5))]) (rest := []) (ob := o) (ci := 9) (r0 := ("AgentNet$Message", F_Ms, 8)) (y := y_Ms_put) (bytes := b_Ms_put) hc fm_T0_good (fm_EX_st b x) hex q_741 q_3 q_738 q_740 qs_Ms_put pd_Ms_put (by omega) (by omega) hL.2.2.2.1 (by decide) rfl rfl (c_putB (v := A.1 5) hL h7P4 rfl iP4 (by first | omega | (simp only [List.length_append, List.length_cons, List.length_nil]; omega))) ⟨rfl, rfl, Nat.le_of_ble_eq_true rfl, Nat.le_of_ble_eq_true rfl⟩ ⟨Nat.le_of_ble_eq_true rfl, Nat.le_of_ble_eq_true rfl⟩ d_Ms_pack_42 (Nat.le_of_ble_eq_true rfl) (fun r n2 M2 hp => ?_)
  obtain ⟨rfl, hq1, iP5, fP5⟩ := hp
  replace hq1 := hq1.symm
  subst hq1
  revert iP5 fP5
  generalize M2 = P5
  intro iP5 fP5
  have h7P5 : P5.2.2 o 7 = some (o + 1) := by rw [fP5.1]; exact h7P4
  have hAP5 := hcA_fi hl2 (by omega) fP5 hAP4
  have hqP5 : tr_P P5 t := by unfold tr_P; rw [fP5.1]; exact hqP4
  refine fm_cnt (z' := (0, 0)) rfl (fm_st (st' := []) rfl ?_)
  refine fm_aload_n hc d_Ms_pack_45 rfl rfl ?_
  refine fm_aload_n hc d_Ms_pack_46 rfl rfl ?_
  refine fm_getI (k := 6) hc K_Tr d_Ms_pack_47 q_200 rfl (by omega) (by omega) hT.2.2.1 (by decide) (by decide) rfl ?_
  refine fm_top (congrArg Value.int (hAP5.1 6 (by decide))) ?_
  refine fm_callV (av := [.int (nI (A.1 6))]) (rest := []) (ob := o) (ci := 9) (r0 := ("AgentNet$Message", F_Ms, 8)) (y := y_Ms_put) (bytes := b_Ms_put) hc fm_T0_good (fm_EX_st b x) hex q_741 q_3 q_738 q_740 qs_Ms_put pd_Ms_put (by omega) (by omega) hL.2.2.2.1 (by decide) rfl rfl (c_putB (v := A.1 6) hL h7P5 rfl iP5 (by first | omega | (simp only [List.length_append, List.length_cons, List.length_nil]; omega))) ⟨rfl, rfl, Nat.le_of_ble_eq_true rfl, Nat.le_of_ble_eq_true rfl⟩ ⟨Nat.le_of_ble_eq_true rfl, Nat.le_of_ble_eq_true rfl⟩ d_Ms_pack_50 (Nat.le_of_ble_eq_true rfl) (fun r n2 M2 hp => ?_)
  obtain ⟨rfl, hq1, iP6, fP6⟩ := hp
  replace hq1 := hq1.symm
  subst hq1
  revert iP6 fP6
  generalize M2 = P6
  intro iP6 fP6
  have h7P6 : P6.2.2 o 7 = some (o + 1) := by rw [fP6.1]; exact h7P5
  have hAP6 := hcA_fi hl2 (by omega) fP6 hAP5
  have hqP6 : tr_P P6 t := by unfold tr_P; rw [fP6.1]; exact hqP5
  refine fm_cnt (z' := (0, 0)) rfl (fm_st (st' := []) rfl ?_)
  refine fm_aload_n hc d_Ms_pack_53 rfl rfl ?_
  refine fm_aload_n hc d_Ms_pack_54 rfl rfl ?_
  refine fm_getI (k := 7) hc K_Tr d_Ms_pack_55 q_206 rfl (by omega) (by omega) hT.2.2.1 (by decide) (by decide) rfl ?_
  refine fm_top (congrArg Value.int (hAP6.1 7 (by decide))) ?_
  refine fm_join (pc2 := 66) (lv2 := [(0, .ref o), (1, .ref t)]) (st2 := [.int (nI (A.1 7)), .ref o]) (I := fun M' => M' = P6) (fun M' hI => ?_) (fun J => ?_)
  · subst hI
    refine fm_callV (av := [.int (nI (A.1 7))]) (rest := []) (ob := o) (ci := 9) (r0 := ("AgentNet$Message", F_Ms, 8)) (y := y_Ms_put) (bytes := b_Ms_put) hc fm_T0_good (fm_EX_st b x) hex q_741 q_3 q_738 q_740 qs_Ms_put pd_Ms_put (by omega) (by omega) hL.2.2.2.1 (by decide) rfl rfl (c_putB (v := A.1 7) hL h7P6 rfl iP6 (by first | omega | (simp only [List.length_append, List.length_cons, List.length_nil]; omega))) ⟨rfl, rfl, Nat.le_of_ble_eq_true rfl, Nat.le_of_ble_eq_true rfl⟩ ⟨Nat.le_of_ble_eq_true rfl, Nat.le_of_ble_eq_true rfl⟩ d_Ms_pack_66 (Nat.le_of_ble_eq_true rfl) (fun r n2 M2 hp => ?_)
    obtain ⟨rfl, hq1, iP7, fP7⟩ := hp
    replace hq1 := hq1.symm
    subst hq1
    revert iP7 fP7
    generalize M2 = P7
    intro iP7 fP7
    have h7P7 : P7.2.2 o 7 = some (o + 1) := by rw [fP7.1]; exact h7P6
    have hAP7 := hcA_fi hl2 (by omega) fP7 hAP6
    have hqP7 : tr_P P7 t := by unfold tr_P; rw [fP7.1]; exact hqP6
    refine fm_cnt (z' := (0, 0)) rfl (fm_st (st' := []) rfl ?_)
    refine fm_aload_n hc d_Ms_pack_69 rfl rfl ?_
    refine fm_aload_n hc d_Ms_pack_70 rfl rfl ?_
    refine fm_getI (k := 3) hc K_Tr d_Ms_pack_71 q_186 rfl (by omega) (by omega) hT.2.2.1 (by decide) (by decide) rfl ?_
    refine fm_top (congrArg Value.int (hAP7.1 3 (by decide))) ?_
    refine fm_bipush (v := nI 8) hc d_Ms_pack_74 rfl ?_
    refine fm_ishr hc d_Ms_pack_76 ?_
    refine fm_top (congrArg Value.int (i8_n0 _ hf)) ?_
    refine fm_callV (av := [.int (nI 0)]) (rest := []) (ob := o) (ci := 9) (r0 := ("AgentNet$Message", F_Ms, 8)) (y := y_Ms_put) (bytes := b_Ms_put) hc fm_T0_good (fm_EX_st b x) hex q_741 q_3 q_738 q_740 qs_Ms_put pd_Ms_put (by omega) (by omega) hL.2.2.2.1 (by decide) rfl rfl (c_putB (v := 0) hL h7P7 rfl iP7 (by first | omega | (simp only [List.length_append, List.length_cons, List.length_nil]; omega))) ⟨rfl, rfl, Nat.le_of_ble_eq_true rfl, Nat.le_of_ble_eq_true rfl⟩ ⟨Nat.le_of_ble_eq_true rfl, Nat.le_of_ble_eq_true rfl⟩ d_Ms_pack_77 (Nat.le_of_ble_eq_true rfl) (fun r n2 M2 hp => ?_)
    obtain ⟨rfl, hq1, iP8, fP8⟩ := hp
    replace hq1 := hq1.symm
    subst hq1
    revert iP8 fP8
    generalize M2 = P8
    intro iP8 fP8
    have h7P8 : P8.2.2 o 7 = some (o + 1) := by rw [fP8.1]; exact h7P7
    have hAP8 := hcA_fi hl2 (by omega) fP8 hAP7
    have hqP8 : tr_P P8 t := by unfold tr_P; rw [fP8.1]; exact hqP7
    refine fm_cnt (z' := (0, 0)) rfl (fm_st (st' := []) rfl ?_)
    refine fm_aload_n hc d_Ms_pack_80 rfl rfl ?_
    refine fm_aload_n hc d_Ms_pack_81 rfl rfl ?_
    refine fm_getI (k := 3) hc K_Tr d_Ms_pack_82 q_186 rfl (by omega) (by omega) hT.2.2.1 (by decide) (by decide) rfl ?_
    refine fm_top (congrArg Value.int (hAP8.1 3 (by decide))) ?_
    refine fm_callV (av := [.int (nI (A.1 3))]) (rest := []) (ob := o) (ci := 9) (r0 := ("AgentNet$Message", F_Ms, 8)) (y := y_Ms_put) (bytes := b_Ms_put) hc fm_T0_good (fm_EX_st b x) hex q_741 q_3 q_738 q_740 qs_Ms_put pd_Ms_put (by omega) (by omega) hL.2.2.2.1 (by decide) rfl rfl (c_putB (v := A.1 3) hL h7P8 rfl iP8 (by first | omega | (simp only [List.length_append, List.length_cons, List.length_nil]; omega))) ⟨rfl, rfl, Nat.le_of_ble_eq_true rfl, Nat.le_of_ble_eq_true rfl⟩ ⟨Nat.le_of_ble_eq_true rfl, Nat.le_of_ble_eq_true rfl⟩ d_Ms_pack_85 (Nat.le_of_ble_eq_true rfl) (fun r n2 M2 hp => ?_)
    obtain ⟨rfl, hq1, iP9, fP9⟩ := hp
    replace hq1 := hq1.symm
    subst hq1
    revert iP9 fP9
    generalize M2 = P9
    intro iP9 fP9
    have h7P9 : P9.2.2 o 7 = some (o + 1) := by rw [fP9.1]; exact h7P8
    have hAP9 := hcA_fi hl2 (by omega) fP9 hAP8
    have hqP9 : tr_P P9 t := by unfold tr_P; rw [fP9.1]; exact hqP8
    refine fm_cnt (z' := (0, 0)) rfl (fm_st (st' := []) rfl ?_)
    refine fm_aload_n hc d_Ms_pack_88 rfl rfl ?_
    refine fm_aload_n hc d_Ms_pack_89 rfl rfl ?_
    refine fm_getI (k := 8) hc K_Tr d_Ms_pack_90 q_211 rfl (by omega) (by omega) hT.2.2.1 (by decide) (by decide) rfl ?_
    refine fm_top (congrArg Value.int hAP9.2.1) ?_
    refine fm_callV (av := [.int (nI A.2.1.length)]) (rest := []) (ob := o) (ci := 9) (r0 := ("AgentNet$Message", F_Ms, 8)) (y := y_Ms_put) (bytes := b_Ms_put) hc fm_T0_good (fm_EX_st b x) hex q_741 q_3 q_738 q_740 qs_Ms_put pd_Ms_put (by omega) (by omega) hL.2.2.2.1 (by decide) rfl rfl (c_putB (v := A.2.1.length) hL h7P9 rfl iP9 (by first | omega | (simp only [List.length_append, List.length_cons, List.length_nil]; omega))) ⟨rfl, rfl, Nat.le_of_ble_eq_true rfl, Nat.le_of_ble_eq_true rfl⟩ ⟨Nat.le_of_ble_eq_true rfl, Nat.le_of_ble_eq_true rfl⟩ d_Ms_pack_93 (Nat.le_of_ble_eq_true rfl) (fun r n2 M2 hp => ?_)
    obtain ⟨rfl, hq1, iP10, fP10⟩ := hp
    replace hq1 := hq1.symm
    subst hq1
    revert iP10 fP10
    generalize M2 = P10
    intro iP10 fP10
    have h7P10 : P10.2.2 o 7 = some (o + 1) := by rw [fP10.1]; exact h7P9
    have hAP10 := hcA_fi hl2 (by omega) fP10 hAP9
    have hqP10 : tr_P P10 t := by unfold tr_P; rw [fP10.1]; exact hqP9
    refine fm_cnt (z' := (0, 0)) rfl (fm_st (st' := []) rfl ?_)
    refine fm_iconst (v := nI 0) hc d_Ms_pack_96 rfl ?_
    refine fm_istore_n (lv' := [(2, .int (nI 0)), (0, .ref o), (1, .ref t)]) hc d_Ms_pack_97 rfl (by decide) rfl ?_
    refine fm_loopI (N := A.2.1.length) (lv := fun k => [(2, .int (nI k)), (0, .ref o), (1, .ref t)]) (I := fun k M' => im_C M' o (im_H A.1 A.2.1.length ++ (A.2.1.take k).flatMap im_V) ∧ fi_M o (fm_put1 M o 0 (nI 1)) M') (fun k Mk hk hI ih => ?_) (fun Mk hI => ?_) ⟨iP10, (fiM_tr (fiM_tr (fiM_tr (fiM_tr (fiM_tr (fiM_tr (fiM_tr (fiM_tr (fiM_tr fP1 fP2) fP3) fP4) fP5) fP6) fP7) fP8) fP9) fP10)⟩
    · obtain ⟨i1, i2⟩ := hI
      have h7k : Mk.2.2 o 7 = some (o + 1) := by rw [i2.1]; exact h7
      have hAk := hcA_fi hl2 (by omega) i2 hA0
      have hqk : tr_P Mk t := by unfold tr_P; rw [i2.1]; exact hq
      obtain ⟨v, hv⟩ : ∃ v, A.2.1[k]? = some v := ⟨_, List.getElem?_eq_getElem hk⟩
      have hev : e_ok v := in_16 ok2 (ok.2.2.1 v (List.mem_of_getElem? hv))
      have hle : (im_H A.1 A.2.1.length ++ (A.2.1.take k).flatMap im_V).length + 5 ≤ 121 := by
        have := fl_len imV_len (A.2.1.take k)
        rw [List.length_take] at this
        rw [List.length_append]
        show 10 + _ + 5 ≤ 121
        omega
      refine fm_iload_n hc d_Ms_pack_98 rfl rfl ?_
      refine fm_aload_n hc d_Ms_pack_99 rfl rfl ?_
      refine fm_getI (k := 8) hc K_Tr d_Ms_pack_100 q_211 rfl (by omega) (by omega) hT.2.2.1 (by decide) (by decide) rfl ?_
      refine fm_top (congrArg Value.int hAk.2.1) ?_
      refine fm_icmp_ge (tgt := 122) hc d_Ms_pack_103 rfl (fun g => absurd g (hnle (a := A.2.1.length) (c := k) hk (by omega))) (fun _ => ?_)
      refine fm_aload_n hc d_Ms_pack_106 rfl rfl ?_
      refine fm_aload_n hc d_Ms_pack_107 rfl rfl ?_
      refine fm_getR (k := 10) (q := t + 1) hc K_Tr d_Ms_pack_108 q_219 rfl (by omega) (by omega) hT.2.2.1 (by decide) (by decide) rfl hqk.1 ?_
      refine fm_iload_n hc d_Ms_pack_111 rfl rfl ?_
      refine fm_lald (j := k) (len := 6) hc 3 d_Ms_pack_112 (by omega) (by omega) hT.2.2.2.1 rfl (by omega) (by decide) ?_
      refine fm_top (congrArg Value.long (hAk.2.2.2.1 k v hv)) ?_
      refine fm_callV (av := [.long (e64 v)]) (rest := []) (ob := o) (ci := 9) (r0 := ("AgentNet$Message", F_Ms, 8)) (y := y_Ms_putValue) (bytes := b_Ms_putValue) hc fm_T0_good (fm_EX_st b x) hex q_745 q_3 q_742 q_744 qs_Ms_putValue pd_Ms_putValue (by omega) (by omega) hL.2.2.2.1 (by decide) rfl rfl (c_putV (v := v) hL h7k hev i1 hle) ⟨rfl, rfl, Nat.le_of_ble_eq_true rfl, Nat.le_of_ble_eq_true rfl⟩ ⟨Nat.le_of_ble_eq_true rfl, Nat.le_of_ble_eq_true rfl⟩ d_Ms_pack_113 (Nat.le_of_ble_eq_true rfl) (fun r n2 M2 hp => ?_)
      obtain ⟨rfl, hq1, iP11, fP11⟩ := hp
      replace hq1 := hq1.symm
      subst hq1
      revert iP11 fP11
      generalize M2 = P11
      intro iP11 fP11
      have h7P11 : P11.2.2 o 7 = some (o + 1) := by rw [fP11.1]; exact h7k
      have hAP11 := hcA_fi hl2 (by omega) fP11 hAk
      have hqP11 : tr_P P11 t := by unfold tr_P; rw [fP11.1]; exact hqk
      refine fm_cnt (z' := (0, 0)) rfl (fm_st (st' := []) rfl ?_)
      refine fm_iinc (v := nI (k + 1)) (lv' := [(2, .int (nI (k + 1))), (0, .ref o), (1, .ref t)]) hc d_Ms_pack_116 rfl (nI_1 k) (by decide) rfl ?_
      refine fm_goto (tgt := 98) hc d_Ms_pack_119 rfl ?_
      refine fm_dropl (lv' := [(2, .int (nI (k + 1))), (0, .ref o), (1, .ref t)]) (by simp) ?_
      exact ih _ ⟨by rw [fl_take hv, ← List.append_assoc]; exact iP11, (fiM_tr i2 fP11)⟩
    · obtain ⟨i1, i2⟩ := hI
      have h7k : Mk.2.2 o 7 = some (o + 1) := by rw [i2.1]; exact h7
      have hAk := hcA_fi hl2 (by omega) i2 hA0
      have hqk : tr_P Mk t := by unfold tr_P; rw [i2.1]; exact hq
      rw [List.take_length] at i1
      have hlt : (im_H A.1 A.2.1.length ++ A.2.1.flatMap im_V).length < 121 := by
        have := fl_len imV_len A.2.1
        rw [List.length_append]
        show 10 + _ < 121
        omega
      refine fm_iload_n hc d_Ms_pack_98 rfl rfl ?_
      refine fm_aload_n hc d_Ms_pack_99 rfl rfl ?_
      refine fm_getI (k := 8) hc K_Tr d_Ms_pack_100 q_211 rfl (by omega) (by omega) hT.2.2.1 (by decide) (by decide) rfl ?_
      refine fm_top (congrArg Value.int hAk.2.1) ?_
      refine fm_icmp_ge (tgt := 122) hc d_Ms_pack_103 rfl (fun _ => ?_) (fun g => absurd (nI_le (Nat.le_refl _) (by omega)) g)
      refine fm_aload_n hc d_Ms_pack_122 rfl rfl ?_
      refine fm_aload_n hc d_Ms_pack_123 rfl rfl ?_
      refine fm_getI (k := 9) hc K_Tr d_Ms_pack_124 q_214 rfl (by omega) (by omega) hT.2.2.1 (by decide) (by decide) rfl ?_
      refine fm_top (congrArg Value.int hAk.2.2.1) ?_
      refine fm_callV (av := [.int (nI A.2.2.length)]) (rest := []) (ob := o) (ci := 9) (r0 := ("AgentNet$Message", F_Ms, 8)) (y := y_Ms_put) (bytes := b_Ms_put) hc fm_T0_good (fm_EX_st b x) hex q_741 q_3 q_738 q_740 qs_Ms_put pd_Ms_put (by omega) (by omega) hL.2.2.2.1 (by decide) rfl rfl (c_putB (v := A.2.2.length) hL h7k rfl i1 hlt) ⟨rfl, rfl, Nat.le_of_ble_eq_true rfl, Nat.le_of_ble_eq_true rfl⟩ ⟨Nat.le_of_ble_eq_true rfl, Nat.le_of_ble_eq_true rfl⟩ d_Ms_pack_127 (Nat.le_of_ble_eq_true rfl) (fun r n2 M2 hp => ?_)
      obtain ⟨rfl, hq1, iQ, fQ⟩ := hp
      replace hq1 := hq1.symm
      subst hq1
      revert iQ fQ
      generalize M2 = PQ
      intro iQ fQ
      have h7Q : PQ.2.2 o 7 = some (o + 1) := by rw [fQ.1]; exact h7k
      have hqQ : tr_P PQ t := by unfold tr_P; rw [fQ.1]; exact hqk
      refine fm_cnt (z' := (0, 0)) rfl (fm_st (st' := []) rfl ?_)
      refine fm_iconst (v := nI 0) hc d_Ms_pack_130 rfl ?_
      refine fm_istore_n (lv' := [(2, .int (nI 0)), (0, .ref o), (1, .ref t)]) hc d_Ms_pack_131 rfl (by decide) rfl ?_
      refine fm_loopI (N := A.2.2.length) (lv := fun k => [(2, .int (nI k)), (0, .ref o), (1, .ref t)]) (I := fun k M' => im_C M' o ((im_H A.1 A.2.1.length ++ A.2.1.flatMap im_V ++ [A.2.2.length]) ++ (A.2.2.take k).flatMap im_P) ∧ fi_M o (fm_put1 M o 0 (nI 1)) M') (fun k Mk hk hI ih => ?_) (fun Mk hI => ?_) ⟨by rw [List.take_zero, List.flatMap_nil, List.append_nil]; exact iQ, fiM_tr i2 fQ⟩
      · clear i1 i2 h7k hAk hqk
        obtain ⟨i1, i2⟩ := hI
        have h7k : Mk.2.2 o 7 = some (o + 1) := by rw [i2.1]; exact h7
        have hAk := hcA_fi hl2 (by omega) i2 hA0
        have hqk : tr_P Mk t := by unfold tr_P; rw [i2.1]; exact hq
        obtain ⟨v, hv⟩ : ∃ v, A.2.2[k]? = some v := ⟨_, List.getElem?_eq_getElem hk⟩
        have hev := ok.2.2.2 v (List.mem_of_getElem? hv)
        have he1 : e_ok v.1 := in_16 ok2 hev.1
        have he2 : e_ok v.2 := in_16 ok2 hev.2
        have hle : ((im_H A.1 A.2.1.length ++ A.2.1.flatMap im_V ++ [A.2.2.length]) ++ (A.2.2.take k).flatMap im_P).length + 10 ≤ 121 := by
          have h1 := fl_len imV_len A.2.1
          have h2 := fl_len imP_len (A.2.2.take k)
          rw [List.length_take] at h2
          rw [List.length_append, List.length_append, List.length_append]
          show 10 + _ + 1 + _ + 10 ≤ 121
          omega
        have hle2 : (((im_H A.1 A.2.1.length ++ A.2.1.flatMap im_V ++ [A.2.2.length]) ++ (A.2.2.take k).flatMap im_P) ++ im_V v.1).length + 5 ≤ 121 := by
          rw [List.length_append]
          have := imV_len v.1
          omega
        refine fm_iload_n hc d_Ms_pack_132 rfl rfl ?_
        refine fm_aload_n hc d_Ms_pack_133 rfl rfl ?_
        refine fm_getI (k := 9) hc K_Tr d_Ms_pack_134 q_214 rfl (by omega) (by omega) hT.2.2.1 (by decide) (by decide) rfl ?_
        refine fm_top (congrArg Value.int hAk.2.2.1) ?_
        refine fm_icmp_ge (tgt := 166) hc d_Ms_pack_137 rfl (fun g => absurd g (hnle (a := A.2.2.length) (c := k) hk (by omega))) (fun _ => ?_)
        refine fm_aload_n hc d_Ms_pack_140 rfl rfl ?_
        refine fm_aload_n hc d_Ms_pack_141 rfl rfl ?_
        refine fm_getR (k := 11) (q := t + 2) hc K_Tr d_Ms_pack_142 q_222 rfl (by omega) (by omega) hT.2.2.1 (by decide) (by decide) rfl hqk.2.1 ?_
        refine fm_iload_n hc d_Ms_pack_145 rfl rfl ?_
        refine fm_lald (j := k) (len := 8) hc 3 d_Ms_pack_146 (by omega) (by omega) hT.2.2.2.2.1 rfl (by omega) (by decide) ?_
        refine fm_top (congrArg Value.long (hAk.2.2.2.2 k v hv).1) ?_
        refine fm_callV (av := [.long (e64 v.1)]) (rest := []) (ob := o) (ci := 9) (r0 := ("AgentNet$Message", F_Ms, 8)) (y := y_Ms_putValue) (bytes := b_Ms_putValue) hc fm_T0_good (fm_EX_st b x) hex q_745 q_3 q_742 q_744 qs_Ms_putValue pd_Ms_putValue (by omega) (by omega) hL.2.2.2.1 (by decide) rfl rfl (c_putV (v := v.1) hL h7k he1 i1 (by omega)) ⟨rfl, rfl, Nat.le_of_ble_eq_true rfl, Nat.le_of_ble_eq_true rfl⟩ ⟨Nat.le_of_ble_eq_true rfl, Nat.le_of_ble_eq_true rfl⟩ d_Ms_pack_147 (Nat.le_of_ble_eq_true rfl) (fun r n2 M2 hp => ?_)
        obtain ⟨rfl, hq1, iP13, fP13⟩ := hp
        replace hq1 := hq1.symm
        subst hq1
        revert iP13 fP13
        generalize M2 = P13
        intro iP13 fP13
        have h7P13 : P13.2.2 o 7 = some (o + 1) := by rw [fP13.1]; exact h7k
        have hAP13 := hcA_fi hl2 (by omega) fP13 hAk
        have hqP13 : tr_P P13 t := by unfold tr_P; rw [fP13.1]; exact hqk
        refine fm_cnt (z' := (0, 0)) rfl (fm_st (st' := []) rfl ?_)
        refine fm_aload_n hc d_Ms_pack_150 rfl rfl ?_
        refine fm_aload_n hc d_Ms_pack_151 rfl rfl ?_
        refine fm_getR (k := 12) (q := t + 3) hc K_Tr d_Ms_pack_152 q_226 rfl (by omega) (by omega) hT.2.2.1 (by decide) (by decide) rfl hqP13.2.2 ?_
        refine fm_iload_n hc d_Ms_pack_155 rfl rfl ?_
        refine fm_lald (j := k) (len := 8) hc 3 d_Ms_pack_156 (by omega) (by omega) hT.2.2.2.2.2 rfl (by omega) (by decide) ?_
        refine fm_top (congrArg Value.long (hAP13.2.2.2.2 k v hv).2) ?_
        refine fm_callV (av := [.long (e64 v.2)]) (rest := []) (ob := o) (ci := 9) (r0 := ("AgentNet$Message", F_Ms, 8)) (y := y_Ms_putValue) (bytes := b_Ms_putValue) hc fm_T0_good (fm_EX_st b x) hex q_745 q_3 q_742 q_744 qs_Ms_putValue pd_Ms_putValue (by omega) (by omega) hL.2.2.2.1 (by decide) rfl rfl (c_putV (v := v.2) hL h7P13 he2 iP13 hle2) ⟨rfl, rfl, Nat.le_of_ble_eq_true rfl, Nat.le_of_ble_eq_true rfl⟩ ⟨Nat.le_of_ble_eq_true rfl, Nat.le_of_ble_eq_true rfl⟩ d_Ms_pack_157 (Nat.le_of_ble_eq_true rfl) (fun r n2 M2 hp => ?_)
        obtain ⟨rfl, hq1, iP14, fP14⟩ := hp
        replace hq1 := hq1.symm
        subst hq1
        revert iP14 fP14
        generalize M2 = P14
        intro iP14 fP14
        have h7P14 : P14.2.2 o 7 = some (o + 1) := by rw [fP14.1]; exact h7P13
        have hAP14 := hcA_fi hl2 (by omega) fP14 hAP13
        have hqP14 : tr_P P14 t := by unfold tr_P; rw [fP14.1]; exact hqP13
        refine fm_cnt (z' := (0, 0)) rfl (fm_st (st' := []) rfl ?_)
        refine fm_iinc (v := nI (k + 1)) (lv' := [(2, .int (nI (k + 1))), (0, .ref o), (1, .ref t)]) hc d_Ms_pack_160 rfl (nI_1 k) (by decide) rfl ?_
        refine fm_goto (tgt := 132) hc d_Ms_pack_163 rfl ?_
        refine fm_dropl (lv' := [(2, .int (nI (k + 1))), (0, .ref o), (1, .ref t)]) (by simp) ?_
        exact ih _ ⟨by rw [fl_take hv, im_P, ← List.append_assoc, ← List.append_assoc]; exact iP14, (fiM_tr (fiM_tr i2 fP13) fP14)⟩
      · clear i1 i2 h7k hAk hqk
        obtain ⟨i1, i2⟩ := hI
        have h7k : Mk.2.2 o 7 = some (o + 1) := by rw [i2.1]; exact h7
        have hAk := hcA_fi hl2 (by omega) i2 hA0
        have hqk : tr_P Mk t := by unfold tr_P; rw [i2.1]; exact hq
        refine fm_iload_n hc d_Ms_pack_132 rfl rfl ?_
        refine fm_aload_n hc d_Ms_pack_133 rfl rfl ?_
        refine fm_getI (k := 9) hc K_Tr d_Ms_pack_134 q_214 rfl (by omega) (by omega) hT.2.2.1 (by decide) (by decide) rfl ?_
        refine fm_top (congrArg Value.int hAk.2.2.1) ?_
        refine fm_icmp_ge (tgt := 166) hc d_Ms_pack_137 rfl (fun _ => ?_) (fun g => absurd (nI_le (Nat.le_refl _) (by omega)) g)
        exact fm_vret hc hr d_Ms_pack_166 (Nat.le_refl _) (Nat.le_refl _) ⟨rfl, rfl, by rw [List.take_length] at i1; rw [im_B, ← List.append_assoc, ← List.append_assoc]; exact i1, i2⟩
  · by_cases gz : A.1 7 = 0
    · refine fm_if_eq (tgt := 65) hc d_Ms_pack_58 rfl (fun _ => ?_) (fun g => absurd (congrArg nI gz) g)
      refine fm_iconst (v := nI 0) hc d_Ms_pack_65 rfl ?_
      refine fm_top (congrArg Value.int (show nI 0 = nI (A.1 7) by rw [gz])) ?_
      exact J _ rfl
    · refine fm_if_eq (tgt := 65) hc d_Ms_pack_58 rfl (fun g => absurd g (fun q => gz (nI_inj (a := A.1 7) (c := 0) (by omega) (by decide) q))) (fun _ => ?_)
      refine fm_iconst (v := nI 1) hc d_Ms_pack_61 rfl ?_
      refine fm_goto (tgt := 66) hc d_Ms_pack_62 rfl ?_
      refine fm_top (congrArg Value.int (show nI 1 = nI (A.1 7) by rw [show A.1 7 = 1 by omega])) ?_
      exact J _ rfl
