/-! THE REFERENCE: bear, cloning -/
def ag_kid (A : ag_T) (w : Nat) : ag_T := (va_up (va_up (va_up (va_up (va_up (va_up A.1 0 (A.1 0 + 4)) 3 w) 4 0) 5 0) 6 0) 7 0, A.2.1 ++ [.inl 1], A.2.2)
theorem mvR_rf (gb : Nat) (M : fm_M) : mv_R gb M M := ⟨rfl, fun _ _ _ => rfl, fun _ _ _ _ => rfl⟩
theorem mvR_tr {gb : Nat} {M M1 M2 : fm_M} (h : mv_R gb M M1) (g : mv_R gb M1 M2) : mv_R gb M M2 := ⟨g.1.trans h.1, fun o j a => (g.2.1 o j a).trans (h.2.1 o j a), fun o j a c => (g.2.2 o j a c).trans (h.2.2 o j a c)⟩
theorem mvR_p1 {gb : Nat} {M M1 : fm_M} {o : Nat} {v : Int32} (h1 : 605 ≤ o) (h2 : o ≤ 614) (h : mv_R gb M M1) : mv_R gb M (fm_put1 M1 o gb v) := mvR_tr h ⟨rfl, fun q i a => by
  by_cases e : q = o
  · subst e
    exact p1_at (fun e2 => a ⟨h1, h2, e2⟩)
  · exact p1_other e, fun _ _ _ _ => rfl⟩
theorem mvR_p2 {gb : Nat} {M M1 : fm_M} {o j : Nat} {v : Int64} (ho : (o = 613 ∧ 6 * gb ≤ j ∧ j < 6 * gb + 6) ∨ ((o = 615 ∨ o = 616) ∧ 9 * gb ≤ j ∧ j < 9 * gb + 9)) (h : mv_R gb M M1) : mv_R gb M (fm_put2 M1 o j v) := mvR_tr h ⟨rfl, fun _ _ _ => rfl, fun q i a c => by
  by_cases e : q = o
  · subst e
    exact p2_at (fun e2 => by subst e2; omega)
  · exact p2_other e⟩
theorem hrG_mv {M M' : fm_M} {ga gb : Nat} {F : Nat → Prop} {A : ag_T} {g : Nat → Nat} (ok : ag_ok A) (h : hr_G M ga F A g) (c : mv_C ga gb M M') : hr_G M' gb F A g := by
  obtain ⟨h1, h2, h3, h4, h5, h6⟩ := h
  obtain ⟨c1, c2, c3⟩ := c
  refine ⟨fun k a b f => (c1 k a (by omega) (by omega)).trans (h1 k a b f), (c1 8 (by decide) (by decide) (by decide)).trans h2, h3, h4, fun k v hv => ?_, fun k q hq => ?_⟩
  · have hk := (List.getElem?_eq_some_iff.mp hv).1
    have := ok.1
    exact (c2 k (by omega)).trans (h5 k v hv)
  · have hk := h3 k (List.getElem?_eq_some_iff.mp hq).1
    exact ⟨(c3 _ hk).1.trans (h6 k q hq).1, (c3 _ hk).2.trans (h6 k q hq).2⟩
/-- another agent's rows change: this one stays -/
theorem hrG_at1 {M M' : fm_M} {ga : Nat} {F : Nat → Prop} {A : ag_T} {g : Nat → Nat} (ok : ag_ok A) (h : hr_G M ga F A g) (c1 : ∀ k, 1 ≤ k → k ≤ 8 → M'.1 (604 + k) ga = M.1 (604 + k) ga) (c2 : ∀ k, k < 6 → M'.2.1 613 (6 * ga + k) = M.2.1 613 (6 * ga + k)) (c3 : ∀ k, k < 9 → M'.2.1 615 (9 * ga + k) = M.2.1 615 (9 * ga + k) ∧ M'.2.1 616 (9 * ga + k) = M.2.1 616 (9 * ga + k)) : hr_G M' ga F A g := by
  obtain ⟨h1, h2, h3, h4, h5, h6⟩ := h
  refine ⟨fun k a b f => (c1 k a (by omega)).trans (h1 k a b f), (c1 8 (by decide) (by decide)).trans h2, h3, h4, fun k v hv => ?_, fun k q hq => ?_⟩
  · have hk := (List.getElem?_eq_some_iff.mp hv).1
    have := ok.1
    exact (c2 k (by omega)).trans (h5 k v hv)
  · have hk := h3 k (List.getElem?_eq_some_iff.mp hq).1
    exact ⟨(c3 _ hk).1.trans (h6 k q hq).1, (c3 _ hk).2.trans (h6 k q hq).2⟩
theorem hrG_mvR {M M' : fm_M} {ga gb : Nat} {F : Nat → Prop} {A : ag_T} {g : Nat → Nat} (ok : ag_ok A) (hab : ga ≠ gb) (h : hr_G M ga F A g) (c : mv_R gb M M') : hr_G M' ga F A g :=
  hrG_at1 ok h (fun k _ _ => c.2.1 _ _ (fun e => hab e.2.2)) (fun k hk => c.2.2 _ _ (by omega) (by omega)) (fun k hk => ⟨c.2.2 _ _ (by omega) (by omega), c.2.2 _ _ (by omega) (by omega)⟩)
theorem hrG_zero {M : fm_M} {r v : Nat} {F : Nat → Prop} {N : Nat → Nat} {q : List bf_V × List (bf_V × bf_V)} {g : Nat → Nat} (h : hr_G M r F (N, q) g) : hr_G M r F (va_up N 0 v, q) g :=
  ⟨fun k a b f => (h.1 k a b f).trans (by show nI (N k) = nI (va_up N 0 v k); rw [fm_upN (by omega)]), h.2⟩
theorem nI_inj {a c : Nat} (ha : a < 2 ^ 30) (hc : c < 2 ^ 30) (h : nI a = nI c) : a = c := by
  have e : (nI a).toInt = (nI c).toInt := by rw [h]
  rw [nI_int ha, nI_int hc] at e
  omega
theorem irem8 (i : Nat) (h : i < 98) : nI i - nI i / nI 8 * nI 8 = nI (i % 8) := by
  have H : ∀ i, i < 98 → nI i - nI i / nI 8 * nI 8 = nI (i % 8) := by decide +kernel
  exact H i h
theorem rc_bear {l : Launch} {b : Nat} {x : Nat → Nat} {D : va_G} {dA : Nat → ClassId} {ga gb w n : Nat} {F : Nat → Prop} {A : ag_T} {g : Nat → Nat} {M : fm_M} (hn : 629 ≤ n) (hR : fm_RP M) (ha : ga < 98) (hb9 : gb < 98) (hab : ga ≠ gb) (hb : M.1 611 ga = 0 ∨ M.1 611 ga = 1) (h : hr_G M ga F A g) (ok : ag_ok A) (hd6 : A.2.1.length < 6) : Met l y_Mo_bear (Cond.code y_Mo_bear b_Mo_bear 4 none :: fm_T0) ({ frames := 1, cells := 0, slots := 0, locals := 30 }) (fm_Pc fm_lay fm_nf fm_fk fm_cl b x D dA (fm_tys dA) (fm_EX b x) false [.ref 586, .int (nI ga), .int (nI gb), .int (nI w)] n M) (fm_Qc fm_lay fm_nf fm_fk fm_cl b x D dA (fun r n' M' => r = none ∧ n' = n ∧ hr_G M' gb F (ag_kid A w) g ∧ mv_R gb M M' ∧ M'.1 611 gb = nI 0)) 0 0 (fm_A b) := by
  refine fm_enter (by decide) (Nat.le_of_ble_eq_true rfl) ?_
  intro p e s m args below meth c9 hc hr hnm hex htg
  refine fm_aload_n hc d_Mo_bear_0 rfl rfl ?_
  refine fm_iload_n hc d_Mo_bear_1 rfl rfl ?_
  refine fm_iload_n hc d_Mo_bear_2 rfl rfl ?_
  refine fm_callV (av := [.int (nI ga), .int (nI gb)]) (rest := []) (ob := 586) (ci := 11) (r0 := ("AgentNetModel", F_Mo, 51)) (y := y_Mo_moveAgent) (bytes := b_Mo_moveAgent) hc fm_T0_good (fm_EX_st b x) hex q_1150 q_13 q_1147 q_1149 qs_Mo_moveAgent pd_Mo_moveAgent (by decide) (by omega) (by decide) (by decide) rfl rfl (rc_move hn hR ha hb9 hab hb) ⟨rfl, rfl, Nat.le_of_ble_eq_true rfl, Nat.le_of_ble_eq_true rfl⟩ ⟨Nat.le_of_ble_eq_true rfl, Nat.le_of_ble_eq_true rfl⟩ d_Mo_bear_3 (Nat.le_of_ble_eq_true rfl) (fun r n2 M2 hp => ?_)
  obtain ⟨rfl, hq1, m1, m2⟩ := hp
  replace hq1 := hq1.symm
  subst hq1
  revert m1 m2
  generalize M2 = Ma
  intro m1 m2
  have hRa := mvR_RP m2 hR
  have ha1 := hrG_mv ok h m1
  refine fm_cnt (z' := (0, 0)) rfl (fm_st (st' := []) rfl ?_)
  refine fm_aload_n hc d_Mo_bear_6 rfl rfl ?_
  refine fm_getR (k := 22) (q := 607) hc K_Mo d_Mo_bear_7 q_907 rfl (by decide) (by omega) (by decide) (by decide) (by decide) rfl (rp_fuel hRa) ?_
  refine fm_iload_n hc d_Mo_bear_10 rfl rfl ?_
  refine fm_iload_n hc d_Mo_bear_11 rfl rfl ?_
  refine fm_iast (j := gb) (len := 98) (v := nI w) hc 0 d_Mo_bear_12 (by decide) (by omega) (by decide) rfl (by omega) (by decide) ?_
  refine fm_aload_n hc d_Mo_bear_13 rfl rfl ?_
  refine fm_getR (k := 23) (q := 608) hc K_Mo d_Mo_bear_14 q_908 rfl (by decide) (by omega) (by decide) (by decide) (by decide) rfl (rp_hops hRa) ?_
  refine fm_iload_n hc d_Mo_bear_17 rfl rfl ?_
  refine fm_iconst (v := nI 0) hc d_Mo_bear_18 rfl ?_
  refine fm_iast (j := gb) (len := 98) (v := nI 0) hc 0 d_Mo_bear_19 (by decide) (by omega) (by decide) rfl (by omega) (by decide) ?_
  refine fm_aload_n hc d_Mo_bear_20 rfl rfl ?_
  refine fm_getR (k := 24) (q := 609) hc K_Mo d_Mo_bear_21 q_909 rfl (by decide) (by omega) (by decide) (by decide) (by decide) rfl (rp_said hRa) ?_
  refine fm_iload_n hc d_Mo_bear_24 rfl rfl ?_
  refine fm_iconst (v := nI 0) hc d_Mo_bear_25 rfl ?_
  refine fm_iast (j := gb) (len := 98) (v := nI 0) hc 0 d_Mo_bear_26 (by decide) (by omega) (by decide) rfl (by omega) (by decide) ?_
  refine fm_aload_n hc d_Mo_bear_27 rfl rfl ?_
  refine fm_getR (k := 25) (q := 610) hc K_Mo d_Mo_bear_28 q_910 rfl (by decide) (by omega) (by decide) (by decide) (by decide) rfl (rp_wait hRa) ?_
  refine fm_iload_n hc d_Mo_bear_31 rfl rfl ?_
  refine fm_iconst (v := nI 0) hc d_Mo_bear_32 rfl ?_
  refine fm_iast (j := gb) (len := 98) (v := nI 0) hc 0 d_Mo_bear_33 (by decide) (by omega) (by decide) rfl (by omega) (by decide) ?_
  refine fm_aload_n hc d_Mo_bear_34 rfl rfl ?_
  refine fm_getR (k := 26) (q := 611) hc K_Mo d_Mo_bear_35 q_911 rfl (by decide) (by omega) (by decide) (by decide) (by decide) rfl (rp_cloned hRa) ?_
  refine fm_iload_n hc d_Mo_bear_38 rfl rfl ?_
  refine fm_iconst (v := nI 0) hc d_Mo_bear_39 rfl ?_
  refine fm_zast (j := gb) (len := 98) (v := nI 0) hc 1 d_Mo_bear_40 (by decide) (by omega) (by decide) rfl (by omega) (by decide) ?_
  refine fm_mem (M' := fm_put1 (fm_put1 (fm_put1 (fm_put1 (fm_put1 (Ma) 607 gb (nI w)) 608 gb (nI 0)) 609 gb (nI 0)) 610 gb (nI 0)) 611 gb (nI 0)) rfl rfl ?_
  refine fm_aload_n hc d_Mo_bear_41 rfl rfl ?_
  refine fm_iload_n hc d_Mo_bear_42 rfl rfl ?_
  refine fm_lconst (v := 1) hc d_Mo_bear_43 rfl ?_
  refine fm_callV (av := [.int (nI gb), .long 1]) (rest := []) (ob := 586) (ci := 11) (r0 := ("AgentNetModel", F_Mo, 51)) (y := y_Mo_push) (bytes := b_Mo_push) hc fm_T0_good (fm_EX_st b x) hex q_1121 q_13 q_1118 q_1120 qs_Mo_push pd_Mo_push (by decide) (by omega) (by decide) (by decide) rfl rfl (rc_push (M := fm_put1 (fm_put1 (fm_put1 (fm_put1 (fm_put1 (Ma) 607 gb (nI w)) 608 gb (nI 0)) 609 gb (nI 0)) 610 gb (nI 0)) 611 gb (nI 0)) (d := A.2.1.length) hn hRa hb9 ((p1_other (by decide)).trans ((p1_other (by decide)).trans ((p1_other (by decide)).trans ((p1_other (by decide)).trans ((p1_other (by decide)).trans ha1.2.1))))) hd6) ⟨rfl, rfl, Nat.le_of_ble_eq_true rfl, Nat.le_of_ble_eq_true rfl⟩ ⟨Nat.le_of_ble_eq_true rfl, Nat.le_of_ble_eq_true rfl⟩ d_Mo_bear_44 (Nat.le_of_ble_eq_true rfl) (fun r n2 M2 hp => ?_)
  obtain ⟨rfl, hq1, hq2⟩ := hp
  replace hq1 := hq1.symm
  replace hq2 := hq2.symm
  subst hq1 hq2
  refine fm_cnt (z' := (0, 0)) rfl (fm_st (st' := []) rfl ?_)
  exact fm_vret hc hr d_Mo_bear_47 (Nat.le_refl _) (Nat.le_refl _) ⟨rfl, rfl, hrG_push (N := (ag_kid A w).1) rfl rfl (hrG_num (k := 7) (v := 0) (by decide) (by decide) (hrG_num (k := 6) (v := 0) (by decide) (by decide) (hrG_num (k := 5) (v := 0) (by decide) (by decide) (hrG_num (k := 4) (v := 0) (by decide) (by decide) (hrG_num (k := 3) (v := w) (by decide) (by decide) (hrG_zero (v := A.1 0 + 4) ha1)))))), mvR_p1 (by decide) (by decide) (mvR_p2 (Or.inl ⟨rfl, by omega, by omega⟩) (mvR_p1 (by decide) (by decide) (mvR_p1 (by decide) (by decide) (mvR_p1 (by decide) (by decide) (mvR_p1 (by decide) (by decide) (mvR_p1 (by decide) (by decide) m2)))))), (p1_other (by decide)).trans (p1_same (fm_put1 (fm_put1 (fm_put1 (fm_put1 (Ma) 607 gb (nI w)) 608 gb (nI 0)) 609 gb (nI 0)) 610 gb (nI 0)) 611 gb (nI 0))⟩
theorem rc_cl_m1 {l : Launch} {b : Nat} {x : Nat → Nat} {D : va_G} {dA : Nat → ClassId} {gi he d : Nat} {v : Int32} {n : Nat} {M : fm_M} (hn : 629 ≤ n) (hR : fm_RP M) (hg : gi < 98) (hd : M.1 612 gi = nI d) (hd6 : d < 6) (hh : he < 4) (hp : 4 ≤ gi % 8) : Met l y_Mo_cloning (Cond.code y_Mo_cloning b_Mo_cloning 6 none :: fm_T0) ({ frames := 2, cells := 0, slots := 0, locals := 60 }) (fm_Pc fm_lay fm_nf fm_fk fm_cl b x D dA (fm_tys dA) (fm_EX b x) false [.ref 586, .int (nI gi), .int (nI he), .int v] n M) (fm_Qc fm_lay fm_nf fm_fk fm_cl b x D dA (fun r n' M' => r = none ∧ n' = n ∧ M' = fm_put1 (fm_put2 M 613 (6 * gi + d) (-1)) 612 gi (nI (d + 1)))) 0 0 (fm_A b) := by
  refine fm_enter (by decide) (Nat.le_of_ble_eq_true rfl) ?_
  intro p e s m args below meth c9 hc hr hnm hex htg
  refine fm_iload_n hc d_Mo_cloning_0 rfl rfl ?_
  refine fm_if_ge (tgt := 18) hc d_Mo_cloning_1 rfl (fun _ => ?_) (fun g => absurd (nI_nonneg (by omega)) g)
  refine fm_iload_n hc d_Mo_cloning_18 rfl rfl ?_
  refine fm_bipush (v := nI 8) hc d_Mo_cloning_19 rfl ?_
  refine fm_irem hc d_Mo_cloning_21 (by decide) ?_
  refine fm_top (congrArg Value.int (irem8 gi hg)) ?_
  refine fm_iconst (v := nI 4) hc d_Mo_cloning_22 rfl ?_
  refine fm_icmp_ge (tgt := 30) hc d_Mo_cloning_23 rfl (fun _ => ?_) (fun g => absurd (nI_le hp (by omega)) g)
  refine fm_iconst (v := nI 0) hc d_Mo_cloning_30 rfl ?_
  refine fm_istore (lv' := [(4, .int (nI 0)), (0, .ref 586), (1, .int (nI gi)), (2, .int (nI he)), (3, .int v)]) hc d_Mo_cloning_31 (by decide) rfl ?_
  refine fm_iload hc d_Mo_cloning_33 rfl ?_
  refine fm_if_eq (tgt := 62) hc d_Mo_cloning_35 rfl (fun _ => ?_) (fun g => absurd (by decide) g)
  refine fm_aload_n hc d_Mo_cloning_62 rfl rfl ?_
  refine fm_iload_n hc d_Mo_cloning_63 rfl rfl ?_
  refine fm_ldc2 (v := -1) hc d_Mo_cloning_64 q_1142 ?_
  refine fm_callV (av := [.int (nI gi), .long (-1)]) (rest := []) (ob := 586) (ci := 11) (r0 := ("AgentNetModel", F_Mo, 51)) (y := y_Mo_push) (bytes := b_Mo_push) hc fm_T0_good (fm_EX_st b x) hex q_1121 q_13 q_1118 q_1120 qs_Mo_push pd_Mo_push (by decide) (by omega) (by decide) (by decide) rfl rfl (rc_push hn hR hg hd hd6) ⟨rfl, rfl, Nat.le_of_ble_eq_true rfl, Nat.le_of_ble_eq_true rfl⟩ ⟨Nat.le_of_ble_eq_true rfl, Nat.le_of_ble_eq_true rfl⟩ d_Mo_cloning_67 (Nat.le_of_ble_eq_true rfl) (fun r n2 M2 hp => ?_)
  obtain ⟨rfl, hq1, hq2⟩ := hp
  replace hq1 := hq1.symm
  replace hq2 := hq2.symm
  subst hq1 hq2
  refine fm_cnt (z' := (0, 0)) rfl (fm_st (st' := []) rfl ?_)
  exact fm_vret hc hr d_Mo_cloning_70 (Nat.le_refl _) (Nat.le_refl _) ⟨rfl, rfl, rfl⟩
theorem rc_cl_m2 {l : Launch} {b : Nat} {x : Nat → Nat} {D : va_G} {dA : Nat → ClassId} {gi he d cl : Nat} {v : Int32} {n : Nat} {M : fm_M} (hn : 629 ≤ n) (hR : fm_RP M) (hg : gi < 98) (hd : M.1 612 gi = nI d) (hd6 : d < 6) (hh : he < 4) (hp : gi % 8 < 4) (hcl : M.1 611 gi = nI cl) (hcl2 : cl ≤ 1) (h1 : ¬ cl = 0) : Met l y_Mo_cloning (Cond.code y_Mo_cloning b_Mo_cloning 6 none :: fm_T0) ({ frames := 2, cells := 0, slots := 0, locals := 60 }) (fm_Pc fm_lay fm_nf fm_fk fm_cl b x D dA (fm_tys dA) (fm_EX b x) false [.ref 586, .int (nI gi), .int (nI he), .int v] n M) (fm_Qc fm_lay fm_nf fm_fk fm_cl b x D dA (fun r n' M' => r = none ∧ n' = n ∧ M' = fm_put1 (fm_put2 M 613 (6 * gi + d) (-1)) 612 gi (nI (d + 1)))) 0 0 (fm_A b) := by
  refine fm_enter (by decide) (Nat.le_of_ble_eq_true rfl) ?_
  intro p e s m args below meth c9 hc hr hnm hex htg
  refine fm_iload_n hc d_Mo_cloning_0 rfl rfl ?_
  refine fm_if_ge (tgt := 18) hc d_Mo_cloning_1 rfl (fun _ => ?_) (fun g => absurd (nI_nonneg (by omega)) g)
  refine fm_iload_n hc d_Mo_cloning_18 rfl rfl ?_
  refine fm_bipush (v := nI 8) hc d_Mo_cloning_19 rfl ?_
  refine fm_irem hc d_Mo_cloning_21 (by decide) ?_
  refine fm_top (congrArg Value.int (irem8 gi hg)) ?_
  refine fm_iconst (v := nI 4) hc d_Mo_cloning_22 rfl ?_
  refine fm_icmp_ge (tgt := 30) hc d_Mo_cloning_23 rfl (fun g => absurd g (hnle (a := 4) (c := gi % 8) hp (by omega))) (fun _ => ?_)
  refine fm_iconst (v := nI 1) hc d_Mo_cloning_26 rfl ?_
  refine fm_goto (tgt := 31) hc d_Mo_cloning_27 rfl ?_
  refine fm_istore (lv' := [(4, .int (nI 1)), (0, .ref 586), (1, .int (nI gi)), (2, .int (nI he)), (3, .int v)]) hc d_Mo_cloning_31 (by decide) rfl ?_
  refine fm_iload hc d_Mo_cloning_33 rfl ?_
  refine fm_if_eq (tgt := 62) hc d_Mo_cloning_35 rfl (fun g => absurd g (by decide)) (fun _ => ?_)
  refine fm_aload_n hc d_Mo_cloning_38 rfl rfl ?_
  refine fm_getR (k := 26) (q := 611) hc K_Mo d_Mo_cloning_39 q_911 rfl (by decide) (by omega) (by decide) (by decide) (by decide) rfl (rp_cloned hR) ?_
  refine fm_iload_n hc d_Mo_cloning_42 rfl rfl ?_
  refine fm_zald (j := gi) (len := 98) hc 1 d_Mo_cloning_43 (by decide) (by omega) (by decide) rfl (by omega) (by decide) ?_
  refine fm_top (congrArg Value.int hcl) ?_
  refine fm_if_ne (tgt := 62) hc d_Mo_cloning_44 rfl (fun _ => ?_) (fun g => absurd g (fun q => h1 (nI_inj (a := cl) (c := 0) (by omega) (by decide) q)))
  refine fm_aload_n hc d_Mo_cloning_62 rfl rfl ?_
  refine fm_iload_n hc d_Mo_cloning_63 rfl rfl ?_
  refine fm_ldc2 (v := -1) hc d_Mo_cloning_64 q_1142 ?_
  refine fm_callV (av := [.int (nI gi), .long (-1)]) (rest := []) (ob := 586) (ci := 11) (r0 := ("AgentNetModel", F_Mo, 51)) (y := y_Mo_push) (bytes := b_Mo_push) hc fm_T0_good (fm_EX_st b x) hex q_1121 q_13 q_1118 q_1120 qs_Mo_push pd_Mo_push (by decide) (by omega) (by decide) (by decide) rfl rfl (rc_push hn hR hg hd hd6) ⟨rfl, rfl, Nat.le_of_ble_eq_true rfl, Nat.le_of_ble_eq_true rfl⟩ ⟨Nat.le_of_ble_eq_true rfl, Nat.le_of_ble_eq_true rfl⟩ d_Mo_cloning_67 (Nat.le_of_ble_eq_true rfl) (fun r n2 M2 hp => ?_)
  obtain ⟨rfl, hq1, hq2⟩ := hp
  replace hq1 := hq1.symm
  replace hq2 := hq2.symm
  subst hq1 hq2
  refine fm_cnt (z' := (0, 0)) rfl (fm_st (st' := []) rfl ?_)
  exact fm_vret hc hr d_Mo_cloning_70 (Nat.le_refl _) (Nat.le_refl _) ⟨rfl, rfl, rfl⟩
theorem rc_cl_m3 {l : Launch} {b : Nat} {x : Nat → Nat} {D : va_G} {dA : Nat → ClassId} {gi he d cl : Nat} {v : Int32} {n : Nat} {M : fm_M} (hn : 629 ≤ n) (hR : fm_RP M) (hg : gi < 98) (hd : M.1 612 gi = nI d) (hd6 : d < 6) (hh : he < 4) (hp : gi % 8 < 4) (hcl : M.1 611 gi = nI cl) (hcl2 : cl ≤ 1) (h1 : cl = 0) (h2 : v < 1) : Met l y_Mo_cloning (Cond.code y_Mo_cloning b_Mo_cloning 6 none :: fm_T0) ({ frames := 2, cells := 0, slots := 0, locals := 60 }) (fm_Pc fm_lay fm_nf fm_fk fm_cl b x D dA (fm_tys dA) (fm_EX b x) false [.ref 586, .int (nI gi), .int (nI he), .int v] n M) (fm_Qc fm_lay fm_nf fm_fk fm_cl b x D dA (fun r n' M' => r = none ∧ n' = n ∧ M' = fm_put1 (fm_put2 M 613 (6 * gi + d) (-1)) 612 gi (nI (d + 1)))) 0 0 (fm_A b) := by
  refine fm_enter (by decide) (Nat.le_of_ble_eq_true rfl) ?_
  intro p e s m args below meth c9 hc hr hnm hex htg
  refine fm_iload_n hc d_Mo_cloning_0 rfl rfl ?_
  refine fm_if_ge (tgt := 18) hc d_Mo_cloning_1 rfl (fun _ => ?_) (fun g => absurd (nI_nonneg (by omega)) g)
  refine fm_iload_n hc d_Mo_cloning_18 rfl rfl ?_
  refine fm_bipush (v := nI 8) hc d_Mo_cloning_19 rfl ?_
  refine fm_irem hc d_Mo_cloning_21 (by decide) ?_
  refine fm_top (congrArg Value.int (irem8 gi hg)) ?_
  refine fm_iconst (v := nI 4) hc d_Mo_cloning_22 rfl ?_
  refine fm_icmp_ge (tgt := 30) hc d_Mo_cloning_23 rfl (fun g => absurd g (hnle (a := 4) (c := gi % 8) hp (by omega))) (fun _ => ?_)
  refine fm_iconst (v := nI 1) hc d_Mo_cloning_26 rfl ?_
  refine fm_goto (tgt := 31) hc d_Mo_cloning_27 rfl ?_
  refine fm_istore (lv' := [(4, .int (nI 1)), (0, .ref 586), (1, .int (nI gi)), (2, .int (nI he)), (3, .int v)]) hc d_Mo_cloning_31 (by decide) rfl ?_
  refine fm_iload hc d_Mo_cloning_33 rfl ?_
  refine fm_if_eq (tgt := 62) hc d_Mo_cloning_35 rfl (fun g => absurd g (by decide)) (fun _ => ?_)
  refine fm_aload_n hc d_Mo_cloning_38 rfl rfl ?_
  refine fm_getR (k := 26) (q := 611) hc K_Mo d_Mo_cloning_39 q_911 rfl (by decide) (by omega) (by decide) (by decide) (by decide) rfl (rp_cloned hR) ?_
  refine fm_iload_n hc d_Mo_cloning_42 rfl rfl ?_
  refine fm_zald (j := gi) (len := 98) hc 1 d_Mo_cloning_43 (by decide) (by omega) (by decide) rfl (by omega) (by decide) ?_
  refine fm_top (congrArg Value.int hcl) ?_
  refine fm_if_ne (tgt := 62) hc d_Mo_cloning_44 rfl (fun g => absurd (congrArg nI h1) g) (fun _ => ?_)
  refine fm_iload_n hc d_Mo_cloning_47 rfl rfl ?_
  refine fm_iconst (v := nI 1) hc d_Mo_cloning_48 rfl ?_
  refine fm_icmp_lt (tgt := 62) hc d_Mo_cloning_49 rfl (fun _ => ?_) (fun g => absurd h2 g)
  refine fm_aload_n hc d_Mo_cloning_62 rfl rfl ?_
  refine fm_iload_n hc d_Mo_cloning_63 rfl rfl ?_
  refine fm_ldc2 (v := -1) hc d_Mo_cloning_64 q_1142 ?_
  refine fm_callV (av := [.int (nI gi), .long (-1)]) (rest := []) (ob := 586) (ci := 11) (r0 := ("AgentNetModel", F_Mo, 51)) (y := y_Mo_push) (bytes := b_Mo_push) hc fm_T0_good (fm_EX_st b x) hex q_1121 q_13 q_1118 q_1120 qs_Mo_push pd_Mo_push (by decide) (by omega) (by decide) (by decide) rfl rfl (rc_push hn hR hg hd hd6) ⟨rfl, rfl, Nat.le_of_ble_eq_true rfl, Nat.le_of_ble_eq_true rfl⟩ ⟨Nat.le_of_ble_eq_true rfl, Nat.le_of_ble_eq_true rfl⟩ d_Mo_cloning_67 (Nat.le_of_ble_eq_true rfl) (fun r n2 M2 hp => ?_)
  obtain ⟨rfl, hq1, hq2⟩ := hp
  replace hq1 := hq1.symm
  replace hq2 := hq2.symm
  subst hq1 hq2
  refine fm_cnt (z' := (0, 0)) rfl (fm_st (st' := []) rfl ?_)
  exact fm_vret hc hr d_Mo_cloning_70 (Nat.le_refl _) (Nat.le_refl _) ⟨rfl, rfl, rfl⟩
theorem rc_cl_m4 {l : Launch} {b : Nat} {x : Nat → Nat} {D : va_G} {dA : Nat → ClassId} {gi he d cl fu : Nat} {v : Int32} {n : Nat} {M : fm_M} (hn : 629 ≤ n) (hR : fm_RP M) (hg : gi < 98) (hd : M.1 612 gi = nI d) (hd6 : d < 6) (hh : he < 4) (hp : gi % 8 < 4) (hcl : M.1 611 gi = nI cl) (hcl2 : cl ≤ 1) (h1 : cl = 0) (h2 : ¬ v < 1) (hfu : M.1 607 gi = nI fu) (h3 : nI fu < v) : Met l y_Mo_cloning (Cond.code y_Mo_cloning b_Mo_cloning 6 none :: fm_T0) ({ frames := 2, cells := 0, slots := 0, locals := 60 }) (fm_Pc fm_lay fm_nf fm_fk fm_cl b x D dA (fm_tys dA) (fm_EX b x) false [.ref 586, .int (nI gi), .int (nI he), .int v] n M) (fm_Qc fm_lay fm_nf fm_fk fm_cl b x D dA (fun r n' M' => r = none ∧ n' = n ∧ M' = fm_put1 (fm_put2 M 613 (6 * gi + d) (-1)) 612 gi (nI (d + 1)))) 0 0 (fm_A b) := by
  refine fm_enter (by decide) (Nat.le_of_ble_eq_true rfl) ?_
  intro p e s m args below meth c9 hc hr hnm hex htg
  refine fm_iload_n hc d_Mo_cloning_0 rfl rfl ?_
  refine fm_if_ge (tgt := 18) hc d_Mo_cloning_1 rfl (fun _ => ?_) (fun g => absurd (nI_nonneg (by omega)) g)
  refine fm_iload_n hc d_Mo_cloning_18 rfl rfl ?_
  refine fm_bipush (v := nI 8) hc d_Mo_cloning_19 rfl ?_
  refine fm_irem hc d_Mo_cloning_21 (by decide) ?_
  refine fm_top (congrArg Value.int (irem8 gi hg)) ?_
  refine fm_iconst (v := nI 4) hc d_Mo_cloning_22 rfl ?_
  refine fm_icmp_ge (tgt := 30) hc d_Mo_cloning_23 rfl (fun g => absurd g (hnle (a := 4) (c := gi % 8) hp (by omega))) (fun _ => ?_)
  refine fm_iconst (v := nI 1) hc d_Mo_cloning_26 rfl ?_
  refine fm_goto (tgt := 31) hc d_Mo_cloning_27 rfl ?_
  refine fm_istore (lv' := [(4, .int (nI 1)), (0, .ref 586), (1, .int (nI gi)), (2, .int (nI he)), (3, .int v)]) hc d_Mo_cloning_31 (by decide) rfl ?_
  refine fm_iload hc d_Mo_cloning_33 rfl ?_
  refine fm_if_eq (tgt := 62) hc d_Mo_cloning_35 rfl (fun g => absurd g (by decide)) (fun _ => ?_)
  refine fm_aload_n hc d_Mo_cloning_38 rfl rfl ?_
  refine fm_getR (k := 26) (q := 611) hc K_Mo d_Mo_cloning_39 q_911 rfl (by decide) (by omega) (by decide) (by decide) (by decide) rfl (rp_cloned hR) ?_
  refine fm_iload_n hc d_Mo_cloning_42 rfl rfl ?_
  refine fm_zald (j := gi) (len := 98) hc 1 d_Mo_cloning_43 (by decide) (by omega) (by decide) rfl (by omega) (by decide) ?_
  refine fm_top (congrArg Value.int hcl) ?_
  refine fm_if_ne (tgt := 62) hc d_Mo_cloning_44 rfl (fun g => absurd (congrArg nI h1) g) (fun _ => ?_)
  refine fm_iload_n hc d_Mo_cloning_47 rfl rfl ?_
  refine fm_iconst (v := nI 1) hc d_Mo_cloning_48 rfl ?_
  refine fm_icmp_lt (tgt := 62) hc d_Mo_cloning_49 rfl (fun g => absurd g h2) (fun _ => ?_)
  refine fm_iload_n hc d_Mo_cloning_52 rfl rfl ?_
  refine fm_aload_n hc d_Mo_cloning_53 rfl rfl ?_
  refine fm_getR (k := 22) (q := 607) hc K_Mo d_Mo_cloning_54 q_907 rfl (by decide) (by omega) (by decide) (by decide) (by decide) rfl (rp_fuel hR) ?_
  refine fm_iload_n hc d_Mo_cloning_57 rfl rfl ?_
  refine fm_iald (j := gi) (len := 98) hc 0 d_Mo_cloning_58 (by decide) (by omega) (by decide) rfl (by omega) (by decide) ?_
  refine fm_top (congrArg Value.int hfu) ?_
  refine fm_icmp_le (tgt := 71) hc d_Mo_cloning_59 rfl (fun g => absurd g (Int32.not_le.mpr h3)) (fun _ => ?_)
  refine fm_aload_n hc d_Mo_cloning_62 rfl rfl ?_
  refine fm_iload_n hc d_Mo_cloning_63 rfl rfl ?_
  refine fm_ldc2 (v := -1) hc d_Mo_cloning_64 q_1142 ?_
  refine fm_callV (av := [.int (nI gi), .long (-1)]) (rest := []) (ob := 586) (ci := 11) (r0 := ("AgentNetModel", F_Mo, 51)) (y := y_Mo_push) (bytes := b_Mo_push) hc fm_T0_good (fm_EX_st b x) hex q_1121 q_13 q_1118 q_1120 qs_Mo_push pd_Mo_push (by decide) (by omega) (by decide) (by decide) rfl rfl (rc_push hn hR hg hd hd6) ⟨rfl, rfl, Nat.le_of_ble_eq_true rfl, Nat.le_of_ble_eq_true rfl⟩ ⟨Nat.le_of_ble_eq_true rfl, Nat.le_of_ble_eq_true rfl⟩ d_Mo_cloning_67 (Nat.le_of_ble_eq_true rfl) (fun r n2 M2 hp => ?_)
  obtain ⟨rfl, hq1, hq2⟩ := hp
  replace hq1 := hq1.symm
  replace hq2 := hq2.symm
  subst hq1 hq2
  refine fm_cnt (z' := (0, 0)) rfl (fm_st (st' := []) rfl ?_)
  exact fm_vret hc hr d_Mo_cloning_70 (Nat.le_refl _) (Nat.le_refl _) ⟨rfl, rfl, rfl⟩
theorem rc_cl_f1 {l : Launch} {b : Nat} {x : Nat → Nat} {D : va_G} {dA : Nat → ClassId} {gi d : Nat} {v : Int32} {n : Nat} {M : fm_M} (hn : 629 ≤ n) (hR : fm_RP M) (hg : gi < 98) (hd : M.1 612 gi = nI d) (hd6 : d < 6) (hp : ¬ gi = 96) : Met l y_Mo_cloning (Cond.code y_Mo_cloning b_Mo_cloning 6 none :: fm_T0) ({ frames := 2, cells := 0, slots := 0, locals := 60 }) (fm_Pc fm_lay fm_nf fm_fk fm_cl b x D dA (fm_tys dA) (fm_EX b x) false [.ref 586, .int (nI gi), .int (-1), .int v] n M) (fm_Qc fm_lay fm_nf fm_fk fm_cl b x D dA (fun r n' M' => r = none ∧ n' = n ∧ M' = fm_put1 (fm_put2 M 613 (6 * gi + d) (-1)) 612 gi (nI (d + 1)))) 0 0 (fm_A b) := by
  refine fm_enter (by decide) (Nat.le_of_ble_eq_true rfl) ?_
  intro p e s m args below meth c9 hc hr hnm hex htg
  refine fm_iload_n hc d_Mo_cloning_0 rfl rfl ?_
  refine fm_if_ge (tgt := 18) hc d_Mo_cloning_1 rfl (fun g => absurd g (by decide)) (fun _ => ?_)
  refine fm_iload_n hc d_Mo_cloning_4 rfl rfl ?_
  refine fm_bipush (v := nI 96) hc d_Mo_cloning_5 rfl ?_
  refine fm_icmp_ne (tgt := 14) hc d_Mo_cloning_7 rfl (fun _ => ?_) (fun g => absurd g (fun q => hp (nI_inj (by omega) (by omega) q)))
  refine fm_iconst (v := nI 0) hc d_Mo_cloning_14 rfl ?_
  refine fm_goto (tgt := 31) hc d_Mo_cloning_15 rfl ?_
  refine fm_istore (lv' := [(4, .int (nI 0)), (0, .ref 586), (1, .int (nI gi)), (2, .int (-1)), (3, .int v)]) hc d_Mo_cloning_31 (by decide) rfl ?_
  refine fm_iload hc d_Mo_cloning_33 rfl ?_
  refine fm_if_eq (tgt := 62) hc d_Mo_cloning_35 rfl (fun _ => ?_) (fun g => absurd (by decide) g)
  refine fm_aload_n hc d_Mo_cloning_62 rfl rfl ?_
  refine fm_iload_n hc d_Mo_cloning_63 rfl rfl ?_
  refine fm_ldc2 (v := -1) hc d_Mo_cloning_64 q_1142 ?_
  refine fm_callV (av := [.int (nI gi), .long (-1)]) (rest := []) (ob := 586) (ci := 11) (r0 := ("AgentNetModel", F_Mo, 51)) (y := y_Mo_push) (bytes := b_Mo_push) hc fm_T0_good (fm_EX_st b x) hex q_1121 q_13 q_1118 q_1120 qs_Mo_push pd_Mo_push (by decide) (by omega) (by decide) (by decide) rfl rfl (rc_push hn hR hg hd hd6) ⟨rfl, rfl, Nat.le_of_ble_eq_true rfl, Nat.le_of_ble_eq_true rfl⟩ ⟨Nat.le_of_ble_eq_true rfl, Nat.le_of_ble_eq_true rfl⟩ d_Mo_cloning_67 (Nat.le_of_ble_eq_true rfl) (fun r n2 M2 hp => ?_)
  obtain ⟨rfl, hq1, hq2⟩ := hp
  replace hq1 := hq1.symm
  replace hq2 := hq2.symm
  subst hq1 hq2
  refine fm_cnt (z' := (0, 0)) rfl (fm_st (st' := []) rfl ?_)
  exact fm_vret hc hr d_Mo_cloning_70 (Nat.le_refl _) (Nat.le_refl _) ⟨rfl, rfl, rfl⟩
theorem rc_cl_f2 {l : Launch} {b : Nat} {x : Nat → Nat} {D : va_G} {dA : Nat → ClassId} {gi d cl : Nat} {v : Int32} {n : Nat} {M : fm_M} (hn : 629 ≤ n) (hR : fm_RP M) (hg : gi < 98) (hd : M.1 612 gi = nI d) (hd6 : d < 6) (hp : gi = 96) (hcl : M.1 611 gi = nI cl) (hcl2 : cl ≤ 1) (h1 : ¬ cl = 0) : Met l y_Mo_cloning (Cond.code y_Mo_cloning b_Mo_cloning 6 none :: fm_T0) ({ frames := 2, cells := 0, slots := 0, locals := 60 }) (fm_Pc fm_lay fm_nf fm_fk fm_cl b x D dA (fm_tys dA) (fm_EX b x) false [.ref 586, .int (nI gi), .int (-1), .int v] n M) (fm_Qc fm_lay fm_nf fm_fk fm_cl b x D dA (fun r n' M' => r = none ∧ n' = n ∧ M' = fm_put1 (fm_put2 M 613 (6 * gi + d) (-1)) 612 gi (nI (d + 1)))) 0 0 (fm_A b) := by
  refine fm_enter (by decide) (Nat.le_of_ble_eq_true rfl) ?_
  intro p e s m args below meth c9 hc hr hnm hex htg
  refine fm_iload_n hc d_Mo_cloning_0 rfl rfl ?_
  refine fm_if_ge (tgt := 18) hc d_Mo_cloning_1 rfl (fun g => absurd g (by decide)) (fun _ => ?_)
  refine fm_iload_n hc d_Mo_cloning_4 rfl rfl ?_
  refine fm_bipush (v := nI 96) hc d_Mo_cloning_5 rfl ?_
  refine fm_icmp_ne (tgt := 14) hc d_Mo_cloning_7 rfl (fun g => absurd (congrArg nI hp) g) (fun _ => ?_)
  refine fm_iconst (v := nI 1) hc d_Mo_cloning_10 rfl ?_
  refine fm_goto (tgt := 31) hc d_Mo_cloning_11 rfl ?_
  refine fm_istore (lv' := [(4, .int (nI 1)), (0, .ref 586), (1, .int (nI gi)), (2, .int (-1)), (3, .int v)]) hc d_Mo_cloning_31 (by decide) rfl ?_
  refine fm_iload hc d_Mo_cloning_33 rfl ?_
  refine fm_if_eq (tgt := 62) hc d_Mo_cloning_35 rfl (fun g => absurd g (by decide)) (fun _ => ?_)
  refine fm_aload_n hc d_Mo_cloning_38 rfl rfl ?_
  refine fm_getR (k := 26) (q := 611) hc K_Mo d_Mo_cloning_39 q_911 rfl (by decide) (by omega) (by decide) (by decide) (by decide) rfl (rp_cloned hR) ?_
  refine fm_iload_n hc d_Mo_cloning_42 rfl rfl ?_
  refine fm_zald (j := gi) (len := 98) hc 1 d_Mo_cloning_43 (by decide) (by omega) (by decide) rfl (by omega) (by decide) ?_
  refine fm_top (congrArg Value.int hcl) ?_
  refine fm_if_ne (tgt := 62) hc d_Mo_cloning_44 rfl (fun _ => ?_) (fun g => absurd g (fun q => h1 (nI_inj (a := cl) (c := 0) (by omega) (by decide) q)))
  refine fm_aload_n hc d_Mo_cloning_62 rfl rfl ?_
  refine fm_iload_n hc d_Mo_cloning_63 rfl rfl ?_
  refine fm_ldc2 (v := -1) hc d_Mo_cloning_64 q_1142 ?_
  refine fm_callV (av := [.int (nI gi), .long (-1)]) (rest := []) (ob := 586) (ci := 11) (r0 := ("AgentNetModel", F_Mo, 51)) (y := y_Mo_push) (bytes := b_Mo_push) hc fm_T0_good (fm_EX_st b x) hex q_1121 q_13 q_1118 q_1120 qs_Mo_push pd_Mo_push (by decide) (by omega) (by decide) (by decide) rfl rfl (rc_push hn hR hg hd hd6) ⟨rfl, rfl, Nat.le_of_ble_eq_true rfl, Nat.le_of_ble_eq_true rfl⟩ ⟨Nat.le_of_ble_eq_true rfl, Nat.le_of_ble_eq_true rfl⟩ d_Mo_cloning_67 (Nat.le_of_ble_eq_true rfl) (fun r n2 M2 hp => ?_)
  obtain ⟨rfl, hq1, hq2⟩ := hp
  replace hq1 := hq1.symm
  replace hq2 := hq2.symm
  subst hq1 hq2
  refine fm_cnt (z' := (0, 0)) rfl (fm_st (st' := []) rfl ?_)
  exact fm_vret hc hr d_Mo_cloning_70 (Nat.le_refl _) (Nat.le_refl _) ⟨rfl, rfl, rfl⟩
theorem rc_cl_f3 {l : Launch} {b : Nat} {x : Nat → Nat} {D : va_G} {dA : Nat → ClassId} {gi d cl : Nat} {v : Int32} {n : Nat} {M : fm_M} (hn : 629 ≤ n) (hR : fm_RP M) (hg : gi < 98) (hd : M.1 612 gi = nI d) (hd6 : d < 6) (hp : gi = 96) (hcl : M.1 611 gi = nI cl) (hcl2 : cl ≤ 1) (h1 : cl = 0) (h2 : v < 1) : Met l y_Mo_cloning (Cond.code y_Mo_cloning b_Mo_cloning 6 none :: fm_T0) ({ frames := 2, cells := 0, slots := 0, locals := 60 }) (fm_Pc fm_lay fm_nf fm_fk fm_cl b x D dA (fm_tys dA) (fm_EX b x) false [.ref 586, .int (nI gi), .int (-1), .int v] n M) (fm_Qc fm_lay fm_nf fm_fk fm_cl b x D dA (fun r n' M' => r = none ∧ n' = n ∧ M' = fm_put1 (fm_put2 M 613 (6 * gi + d) (-1)) 612 gi (nI (d + 1)))) 0 0 (fm_A b) := by
  refine fm_enter (by decide) (Nat.le_of_ble_eq_true rfl) ?_
  intro p e s m args below meth c9 hc hr hnm hex htg
  refine fm_iload_n hc d_Mo_cloning_0 rfl rfl ?_
  refine fm_if_ge (tgt := 18) hc d_Mo_cloning_1 rfl (fun g => absurd g (by decide)) (fun _ => ?_)
  refine fm_iload_n hc d_Mo_cloning_4 rfl rfl ?_
  refine fm_bipush (v := nI 96) hc d_Mo_cloning_5 rfl ?_
  refine fm_icmp_ne (tgt := 14) hc d_Mo_cloning_7 rfl (fun g => absurd (congrArg nI hp) g) (fun _ => ?_)
  refine fm_iconst (v := nI 1) hc d_Mo_cloning_10 rfl ?_
  refine fm_goto (tgt := 31) hc d_Mo_cloning_11 rfl ?_
  refine fm_istore (lv' := [(4, .int (nI 1)), (0, .ref 586), (1, .int (nI gi)), (2, .int (-1)), (3, .int v)]) hc d_Mo_cloning_31 (by decide) rfl ?_
  refine fm_iload hc d_Mo_cloning_33 rfl ?_
  refine fm_if_eq (tgt := 62) hc d_Mo_cloning_35 rfl (fun g => absurd g (by decide)) (fun _ => ?_)
  refine fm_aload_n hc d_Mo_cloning_38 rfl rfl ?_
  refine fm_getR (k := 26) (q := 611) hc K_Mo d_Mo_cloning_39 q_911 rfl (by decide) (by omega) (by decide) (by decide) (by decide) rfl (rp_cloned hR) ?_
  refine fm_iload_n hc d_Mo_cloning_42 rfl rfl ?_
  refine fm_zald (j := gi) (len := 98) hc 1 d_Mo_cloning_43 (by decide) (by omega) (by decide) rfl (by omega) (by decide) ?_
  refine fm_top (congrArg Value.int hcl) ?_
  refine fm_if_ne (tgt := 62) hc d_Mo_cloning_44 rfl (fun g => absurd (congrArg nI h1) g) (fun _ => ?_)
  refine fm_iload_n hc d_Mo_cloning_47 rfl rfl ?_
  refine fm_iconst (v := nI 1) hc d_Mo_cloning_48 rfl ?_
  refine fm_icmp_lt (tgt := 62) hc d_Mo_cloning_49 rfl (fun _ => ?_) (fun g => absurd h2 g)
  refine fm_aload_n hc d_Mo_cloning_62 rfl rfl ?_
  refine fm_iload_n hc d_Mo_cloning_63 rfl rfl ?_
  refine fm_ldc2 (v := -1) hc d_Mo_cloning_64 q_1142 ?_
  refine fm_callV (av := [.int (nI gi), .long (-1)]) (rest := []) (ob := 586) (ci := 11) (r0 := ("AgentNetModel", F_Mo, 51)) (y := y_Mo_push) (bytes := b_Mo_push) hc fm_T0_good (fm_EX_st b x) hex q_1121 q_13 q_1118 q_1120 qs_Mo_push pd_Mo_push (by decide) (by omega) (by decide) (by decide) rfl rfl (rc_push hn hR hg hd hd6) ⟨rfl, rfl, Nat.le_of_ble_eq_true rfl, Nat.le_of_ble_eq_true rfl⟩ ⟨Nat.le_of_ble_eq_true rfl, Nat.le_of_ble_eq_true rfl⟩ d_Mo_cloning_67 (Nat.le_of_ble_eq_true rfl) (fun r n2 M2 hp => ?_)
  obtain ⟨rfl, hq1, hq2⟩ := hp
  replace hq1 := hq1.symm
  replace hq2 := hq2.symm
  subst hq1 hq2
  refine fm_cnt (z' := (0, 0)) rfl (fm_st (st' := []) rfl ?_)
  exact fm_vret hc hr d_Mo_cloning_70 (Nat.le_refl _) (Nat.le_refl _) ⟨rfl, rfl, rfl⟩
theorem rc_cl_f4 {l : Launch} {b : Nat} {x : Nat → Nat} {D : va_G} {dA : Nat → ClassId} {gi d cl fu : Nat} {v : Int32} {n : Nat} {M : fm_M} (hn : 629 ≤ n) (hR : fm_RP M) (hg : gi < 98) (hd : M.1 612 gi = nI d) (hd6 : d < 6) (hp : gi = 96) (hcl : M.1 611 gi = nI cl) (hcl2 : cl ≤ 1) (h1 : cl = 0) (h2 : ¬ v < 1) (hfu : M.1 607 gi = nI fu) (h3 : nI fu < v) : Met l y_Mo_cloning (Cond.code y_Mo_cloning b_Mo_cloning 6 none :: fm_T0) ({ frames := 2, cells := 0, slots := 0, locals := 60 }) (fm_Pc fm_lay fm_nf fm_fk fm_cl b x D dA (fm_tys dA) (fm_EX b x) false [.ref 586, .int (nI gi), .int (-1), .int v] n M) (fm_Qc fm_lay fm_nf fm_fk fm_cl b x D dA (fun r n' M' => r = none ∧ n' = n ∧ M' = fm_put1 (fm_put2 M 613 (6 * gi + d) (-1)) 612 gi (nI (d + 1)))) 0 0 (fm_A b) := by
  refine fm_enter (by decide) (Nat.le_of_ble_eq_true rfl) ?_
  intro p e s m args below meth c9 hc hr hnm hex htg
  refine fm_iload_n hc d_Mo_cloning_0 rfl rfl ?_
  refine fm_if_ge (tgt := 18) hc d_Mo_cloning_1 rfl (fun g => absurd g (by decide)) (fun _ => ?_)
  refine fm_iload_n hc d_Mo_cloning_4 rfl rfl ?_
  refine fm_bipush (v := nI 96) hc d_Mo_cloning_5 rfl ?_
  refine fm_icmp_ne (tgt := 14) hc d_Mo_cloning_7 rfl (fun g => absurd (congrArg nI hp) g) (fun _ => ?_)
  refine fm_iconst (v := nI 1) hc d_Mo_cloning_10 rfl ?_
  refine fm_goto (tgt := 31) hc d_Mo_cloning_11 rfl ?_
  refine fm_istore (lv' := [(4, .int (nI 1)), (0, .ref 586), (1, .int (nI gi)), (2, .int (-1)), (3, .int v)]) hc d_Mo_cloning_31 (by decide) rfl ?_
  refine fm_iload hc d_Mo_cloning_33 rfl ?_
  refine fm_if_eq (tgt := 62) hc d_Mo_cloning_35 rfl (fun g => absurd g (by decide)) (fun _ => ?_)
  refine fm_aload_n hc d_Mo_cloning_38 rfl rfl ?_
  refine fm_getR (k := 26) (q := 611) hc K_Mo d_Mo_cloning_39 q_911 rfl (by decide) (by omega) (by decide) (by decide) (by decide) rfl (rp_cloned hR) ?_
  refine fm_iload_n hc d_Mo_cloning_42 rfl rfl ?_
  refine fm_zald (j := gi) (len := 98) hc 1 d_Mo_cloning_43 (by decide) (by omega) (by decide) rfl (by omega) (by decide) ?_
  refine fm_top (congrArg Value.int hcl) ?_
  refine fm_if_ne (tgt := 62) hc d_Mo_cloning_44 rfl (fun g => absurd (congrArg nI h1) g) (fun _ => ?_)
  refine fm_iload_n hc d_Mo_cloning_47 rfl rfl ?_
  refine fm_iconst (v := nI 1) hc d_Mo_cloning_48 rfl ?_
  refine fm_icmp_lt (tgt := 62) hc d_Mo_cloning_49 rfl (fun g => absurd g h2) (fun _ => ?_)
  refine fm_iload_n hc d_Mo_cloning_52 rfl rfl ?_
  refine fm_aload_n hc d_Mo_cloning_53 rfl rfl ?_
  refine fm_getR (k := 22) (q := 607) hc K_Mo d_Mo_cloning_54 q_907 rfl (by decide) (by omega) (by decide) (by decide) (by decide) rfl (rp_fuel hR) ?_
  refine fm_iload_n hc d_Mo_cloning_57 rfl rfl ?_
  refine fm_iald (j := gi) (len := 98) hc 0 d_Mo_cloning_58 (by decide) (by omega) (by decide) rfl (by omega) (by decide) ?_
  refine fm_top (congrArg Value.int hfu) ?_
  refine fm_icmp_le (tgt := 71) hc d_Mo_cloning_59 rfl (fun g => absurd g (Int32.not_le.mpr h3)) (fun _ => ?_)
  refine fm_aload_n hc d_Mo_cloning_62 rfl rfl ?_
  refine fm_iload_n hc d_Mo_cloning_63 rfl rfl ?_
  refine fm_ldc2 (v := -1) hc d_Mo_cloning_64 q_1142 ?_
  refine fm_callV (av := [.int (nI gi), .long (-1)]) (rest := []) (ob := 586) (ci := 11) (r0 := ("AgentNetModel", F_Mo, 51)) (y := y_Mo_push) (bytes := b_Mo_push) hc fm_T0_good (fm_EX_st b x) hex q_1121 q_13 q_1118 q_1120 qs_Mo_push pd_Mo_push (by decide) (by omega) (by decide) (by decide) rfl rfl (rc_push hn hR hg hd hd6) ⟨rfl, rfl, Nat.le_of_ble_eq_true rfl, Nat.le_of_ble_eq_true rfl⟩ ⟨Nat.le_of_ble_eq_true rfl, Nat.le_of_ble_eq_true rfl⟩ d_Mo_cloning_67 (Nat.le_of_ble_eq_true rfl) (fun r n2 M2 hp => ?_)
  obtain ⟨rfl, hq1, hq2⟩ := hp
  replace hq1 := hq1.symm
  replace hq2 := hq2.symm
  subst hq1 hq2
  refine fm_cnt (z' := (0, 0)) rfl (fm_st (st' := []) rfl ?_)
  exact fm_vret hc hr d_Mo_cloning_70 (Nat.le_refl _) (Nat.le_refl _) ⟨rfl, rfl, rfl⟩
