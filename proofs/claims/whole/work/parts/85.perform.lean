/-! PERFORM, for whatever its pieces do; the numbering of an agent -/
def tr_L (n tr : Nat) : Prop := 70 ≤ tr ∧ tr + 3 < n ∧ (fm_lay tr).1 = 5 ∧ fm_lay (tr + 1) = (110, 6) ∧ fm_lay (tr + 2) = (110, 8) ∧ fm_lay (tr + 3) = (110, 8)
def tr_P (M : fm_M) (tr : Nat) : Prop := M.2.2 tr 10 = some (tr + 1) ∧ M.2.2 tr 11 = some (tr + 2) ∧ M.2.2 tr 12 = some (tr + 3)
theorem fn_get {p : List (bf_V × bf_V)} {k : Nat} (h : k < p.length) : p[k]? = some (ag_fn p k) := by
  rw [List.getElem?_eq_getElem h]
  unfold ag_fn
  rw [List.getD_eq_getElem?_getD, List.getElem?_eq_getElem h]
  rfl
theorem c_renumA {l : Launch} {b : Nat} {x : Nat → Nat} {D : va_G} {dA : Nat → ClassId} {tr n : Nat} {A : ag_T} {M : fm_M} (hn : 586 ≤ n) (hT : tr_L n tr) (hP : tr_P M tr) (hN : fm_NP M) (h : hc_A M tr A) (ok : ag_ok A) : Met l y_Nu_renumber (Cond.code y_Nu_renumber b_Nu_renumber 3 none :: fm_T0) ({ frames := 2, cells := 0, slots := 0, locals := 45 }) (fm_Pc fm_lay fm_nf fm_fk fm_cl b x D dA (fm_tys dA) (fm_EX b x) false [.ref 61, .ref tr] n (M)) (fm_Qc fm_lay fm_nf fm_fk fm_cl b x D dA (fun r n' M' => r = none ∧ n' = n ∧ hc_A M' tr (ag_can A) ∧ fr_P tr M M' ∧ M'.1 60 = M.1 60)) 0 0 (fm_A b) := by
  obtain ⟨t8, t3, tl, tl1, tl2, tl3⟩ := hT
  obtain ⟨ok1, ok2, ok3, ok4⟩ := ok
  by_cases h0 : A.2.2.length = 0
  · have he : A.2.2 = [] := List.eq_nil_of_length_eq_zero h0
    have hq : M.1 tr 9 = nI 0 := by rw [h.2.2.1, h0]
    refine fm_post (c_renum0 hn t8 (by omega) tl hq) (fun r n' M' g => ⟨g.1, g.2.1, ?_, ?_, by rw [g.2.2]⟩)
    · rw [g.2.2, can_nil he (fun v hv => by have := ok3 v hv; rwa [h0] at this)]
      exact h
    · rw [g.2.2]
      exact frP_rf tr M
  · have hf : ∀ k, k < A.2.2.length → M.2.1 (tr + 2) k = e64 (ag_fn A.2.2 k).1 ∧ M.2.1 (tr + 3) k = e64 (ag_fn A.2.2 k).2 := fun k hk => h.2.2.2.2 k _ (fn_get hk)
    have iff : ∀ a, a < A.2.2.length → bf_in (fun k => k < A.2.2.length) (ag_fn A.2.2 a).1 ∧ bf_in (fun k => k < A.2.2.length) (ag_fn A.2.2 a).2 := fun a ha => ok4 _ (List.mem_of_getElem? (fn_get ha))
    refine fm_post (c_renum hn t8 (by omega) (by omega) (by omega) (by omega) tl tl1 tl2 tl3 hP.1 hP.2.1 hP.2.2 hN h.2.1 ok1 h.2.2.1 (by omega) ok2 h.2.2.2.1 hf ok3 iff) (fun r n' M' g => ⟨g.1, g.2.1, hcA_rn t8 h g.2.2, ?_, funext fun k => g.2.2.2.2.2.2.1 60 k (by decide) (by decide) (by decide) (fun e => by omega)⟩)
    obtain ⟨g1, g2, g3, g4, g5, g6⟩ := g.2.2
    exact ⟨g4, fun q h1 h2 => funext fun k => g5 q k (by omega) (by omega) (by omega) (fun e => h1 e.1), fun q h1 h2 h3 h4 => g6 q h1 h2 h3 (by omega) (by omega)⟩
theorem perf_f1 {l : Launch} {b : Nat} {x : Nat → Nat} {D : va_G} {dA : Nat → ClassId} {tr sc tb he fu : Nat}  {Ma : fm_M}  {n : Nat} {M : fm_M} (hn : 586 ≤ n) (t8 : 70 ≤ tr) (tn : tr < n) (tl : (fm_lay tr).1 = 5) (hfu : M.1 tr 3 = nI fu) (hf1 : 1 ≤ fu) (hrd : Met l y_Pr_read (Cond.code y_Pr_read b_Pr_read 3 (some .boolean) :: fm_T0) ({ frames := 1, cells := 0, slots := 0, locals := 25 }) (fm_Pc fm_lay fm_nf fm_fk fm_cl b x D dA (fm_tys dA) (fm_EX b x) false [.ref 60, .ref tr, .ref sc] n (fm_put1 M tr 3 (nI (fu - 1)))) (fm_Qc fm_lay fm_nf fm_fk fm_cl b x D dA (fun r n' M' => r = some (.int (nI 0)) ∧ n' = n ∧ M' = Ma)) 0 0 (fm_A b)) : Met l y_Pr_perform (Cond.code y_Pr_perform b_Pr_perform 6 (some .int) :: fm_T0) ({ frames := 3, cells := 0, slots := 0, locals := 90 }) (fm_Pc fm_lay fm_nf fm_fk fm_cl b x D dA (fm_tys dA) (fm_EX b x) false [.ref 60, .ref tr, .ref sc, .ref tb, .int (nI he)] n M) (fm_Qc fm_lay fm_nf fm_fk fm_cl b x D dA (fun r n' M' => r = some (.int (nI 5)) ∧ n' = n ∧ M' = Ma)) 0 0 (fm_A b) := by
  refine fm_enter (by decide) (Nat.le_of_ble_eq_true rfl) ?_
  intro p e s m args below meth c9 hc hr hnm hex htg
  refine fm_aload_n hc d_Pr_perform_0 rfl rfl ?_
  refine fm_dup hc d_Pr_perform_1 rfl ?_
  refine fm_getI (k := 3) hc K_Tr d_Pr_perform_2 q_184 rfl (by omega) tn tl (by decide) (by decide) rfl ?_
  refine fm_top (congrArg Value.int hfu) ?_
  refine fm_iconst (v := nI 1) hc d_Pr_perform_5 rfl ?_
  refine fm_isub hc d_Pr_perform_6 ?_
  refine fm_top (congrArg Value.int (pk_sub (a := fu) (b := 1) (by omega))) ?_
  refine fm_putI (k := 3) (v := nI (fu - 1)) hc K_Tr d_Pr_perform_7 q_184 rfl (by omega) tn tl (by decide) (by decide) rfl rfl rfl rfl ?_
  refine fm_aload_n hc d_Pr_perform_10 rfl rfl ?_
  refine fm_aload_n hc d_Pr_perform_11 rfl rfl ?_
  refine fm_aload_n hc d_Pr_perform_12 rfl rfl ?_
  refine fm_callV (av := [.ref tr, .ref sc]) (rest := []) (ob := 60) (ci := 10) (r0 := ("AgentNet$Processor", F_Pr, 6)) (y := y_Pr_read) (bytes := b_Pr_read) hc fm_T0_good (fm_EX_st b x) hex q_598 q_4 q_595 q_597 qs_Pr_read pd_Pr_read (by decide) (by omega) (by decide) (by decide) rfl rfl (hrd) ⟨rfl, rfl, Nat.le_of_ble_eq_true rfl, Nat.le_of_ble_eq_true rfl⟩ ⟨Nat.le_of_ble_eq_true rfl, Nat.le_of_ble_eq_true rfl⟩ d_Pr_perform_13 (Nat.le_of_ble_eq_true rfl) (fun r n2 M2 hp => ?_)
  obtain ⟨rfl, hq1, hq2⟩ := hp
  replace hq1 := hq1.symm
  replace hq2 := hq2.symm
  subst hq1 hq2
  refine fm_cnt (z' := (0, 0)) rfl (fm_st (st' := [.int (nI 0)]) rfl ?_)
  refine fm_if_eq (tgt := 35) hc d_Pr_perform_16 rfl (fun _ => ?_) (fun g => absurd (by decide) g)
  refine fm_iconst (v := nI 5) hc d_Pr_perform_35 rfl ?_
  exact fm_iret hc hr d_Pr_perform_36 (Nat.le_refl _) (Nat.le_refl _) ⟨rfl, rfl, rfl⟩
theorem perf_f2 {l : Launch} {b : Nat} {x : Nat → Nat} {D : va_G} {dA : Nat → ClassId} {tr sc tb he fu : Nat}  {Ma Mb : fm_M}  {n : Nat} {M : fm_M} (hn : 586 ≤ n) (t8 : 70 ≤ tr) (tn : tr < n) (tl : (fm_lay tr).1 = 5) (hfu : M.1 tr 3 = nI fu) (hf1 : 1 ≤ fu) (hrd : Met l y_Pr_read (Cond.code y_Pr_read b_Pr_read 3 (some .boolean) :: fm_T0) ({ frames := 1, cells := 0, slots := 0, locals := 25 }) (fm_Pc fm_lay fm_nf fm_fk fm_cl b x D dA (fm_tys dA) (fm_EX b x) false [.ref 60, .ref tr, .ref sc] n (fm_put1 M tr 3 (nI (fu - 1)))) (fm_Qc fm_lay fm_nf fm_fk fm_cl b x D dA (fun r n' M' => r = some (.int (nI 1)) ∧ n' = n ∧ M' = Ma)) 0 0 (fm_A b)) (htk : Met l y_Pr_takesFit (Cond.code y_Pr_takesFit b_Pr_takesFit 3 (some .boolean) :: fm_T0) ({ frames := 2, cells := 0, slots := 0, locals := 50 }) (fm_Pc fm_lay fm_nf fm_fk fm_cl b x D dA (fm_tys dA) (fm_EX b x) false [.ref 60, .ref tr] n (Ma)) (fm_Qc fm_lay fm_nf fm_fk fm_cl b x D dA (fun r n' M' => r = some (.int (nI 0)) ∧ n' = n ∧ M' = Mb)) 0 0 (fm_A b)) : Met l y_Pr_perform (Cond.code y_Pr_perform b_Pr_perform 6 (some .int) :: fm_T0) ({ frames := 3, cells := 0, slots := 0, locals := 90 }) (fm_Pc fm_lay fm_nf fm_fk fm_cl b x D dA (fm_tys dA) (fm_EX b x) false [.ref 60, .ref tr, .ref sc, .ref tb, .int (nI he)] n M) (fm_Qc fm_lay fm_nf fm_fk fm_cl b x D dA (fun r n' M' => r = some (.int (nI 5)) ∧ n' = n ∧ M' = Mb)) 0 0 (fm_A b) := by
  refine fm_enter (by decide) (Nat.le_of_ble_eq_true rfl) ?_
  intro p e s m args below meth c9 hc hr hnm hex htg
  refine fm_aload_n hc d_Pr_perform_0 rfl rfl ?_
  refine fm_dup hc d_Pr_perform_1 rfl ?_
  refine fm_getI (k := 3) hc K_Tr d_Pr_perform_2 q_184 rfl (by omega) tn tl (by decide) (by decide) rfl ?_
  refine fm_top (congrArg Value.int hfu) ?_
  refine fm_iconst (v := nI 1) hc d_Pr_perform_5 rfl ?_
  refine fm_isub hc d_Pr_perform_6 ?_
  refine fm_top (congrArg Value.int (pk_sub (a := fu) (b := 1) (by omega))) ?_
  refine fm_putI (k := 3) (v := nI (fu - 1)) hc K_Tr d_Pr_perform_7 q_184 rfl (by omega) tn tl (by decide) (by decide) rfl rfl rfl rfl ?_
  refine fm_aload_n hc d_Pr_perform_10 rfl rfl ?_
  refine fm_aload_n hc d_Pr_perform_11 rfl rfl ?_
  refine fm_aload_n hc d_Pr_perform_12 rfl rfl ?_
  refine fm_callV (av := [.ref tr, .ref sc]) (rest := []) (ob := 60) (ci := 10) (r0 := ("AgentNet$Processor", F_Pr, 6)) (y := y_Pr_read) (bytes := b_Pr_read) hc fm_T0_good (fm_EX_st b x) hex q_598 q_4 q_595 q_597 qs_Pr_read pd_Pr_read (by decide) (by omega) (by decide) (by decide) rfl rfl (hrd) ⟨rfl, rfl, Nat.le_of_ble_eq_true rfl, Nat.le_of_ble_eq_true rfl⟩ ⟨Nat.le_of_ble_eq_true rfl, Nat.le_of_ble_eq_true rfl⟩ d_Pr_perform_13 (Nat.le_of_ble_eq_true rfl) (fun r n2 M2 hp => ?_)
  obtain ⟨rfl, hq1, hq2⟩ := hp
  replace hq1 := hq1.symm
  replace hq2 := hq2.symm
  subst hq1 hq2
  refine fm_cnt (z' := (0, 0)) rfl (fm_st (st' := [.int (nI 1)]) rfl ?_)
  refine fm_if_eq (tgt := 35) hc d_Pr_perform_16 rfl (fun g => absurd g (by decide)) (fun _ => ?_)
  refine fm_aload_n hc d_Pr_perform_19 rfl rfl ?_
  refine fm_aload_n hc d_Pr_perform_20 rfl rfl ?_
  refine fm_callV (av := [.ref tr]) (rest := []) (ob := 60) (ci := 10) (r0 := ("AgentNet$Processor", F_Pr, 6)) (y := y_Pr_takesFit) (bytes := b_Pr_takesFit) hc fm_T0_good (fm_EX_st b x) hex q_608 q_4 q_605 q_607 qs_Pr_takesFit pd_Pr_takesFit (by decide) (by omega) (by decide) (by decide) rfl rfl (htk) ⟨rfl, rfl, Nat.le_of_ble_eq_true rfl, Nat.le_of_ble_eq_true rfl⟩ ⟨Nat.le_of_ble_eq_true rfl, Nat.le_of_ble_eq_true rfl⟩ d_Pr_perform_21 (Nat.le_of_ble_eq_true rfl) (fun r n2 M2 hp => ?_)
  obtain ⟨rfl, hq1, hq2⟩ := hp
  replace hq1 := hq1.symm
  replace hq2 := hq2.symm
  subst hq1 hq2
  refine fm_cnt (z' := (0, 0)) rfl (fm_st (st' := [.int (nI 0)]) rfl ?_)
  refine fm_if_eq (tgt := 35) hc d_Pr_perform_24 rfl (fun _ => ?_) (fun g => absurd (by decide) g)
  refine fm_iconst (v := nI 5) hc d_Pr_perform_35 rfl ?_
  exact fm_iret hc hr d_Pr_perform_36 (Nat.le_refl _) (Nat.le_refl _) ⟨rfl, rfl, rfl⟩
theorem perf_f3 {l : Launch} {b : Nat} {x : Nat → Nat} {D : va_G} {dA : Nat → ClassId} {tr sc tb he fu : Nat}  {Ma Mb : fm_M}  {n : Nat} {M : fm_M} (hn : 586 ≤ n) (t8 : 70 ≤ tr) (tn : tr < n) (tl : (fm_lay tr).1 = 5) (hfu : M.1 tr 3 = nI fu) (hf1 : 1 ≤ fu) (hrd : Met l y_Pr_read (Cond.code y_Pr_read b_Pr_read 3 (some .boolean) :: fm_T0) ({ frames := 1, cells := 0, slots := 0, locals := 25 }) (fm_Pc fm_lay fm_nf fm_fk fm_cl b x D dA (fm_tys dA) (fm_EX b x) false [.ref 60, .ref tr, .ref sc] n (fm_put1 M tr 3 (nI (fu - 1)))) (fm_Qc fm_lay fm_nf fm_fk fm_cl b x D dA (fun r n' M' => r = some (.int (nI 1)) ∧ n' = n ∧ M' = Ma)) 0 0 (fm_A b)) (htk : Met l y_Pr_takesFit (Cond.code y_Pr_takesFit b_Pr_takesFit 3 (some .boolean) :: fm_T0) ({ frames := 2, cells := 0, slots := 0, locals := 50 }) (fm_Pc fm_lay fm_nf fm_fk fm_cl b x D dA (fm_tys dA) (fm_EX b x) false [.ref 60, .ref tr] n (Ma)) (fm_Qc fm_lay fm_nf fm_fk fm_cl b x D dA (fun r n' M' => r = some (.int (nI 1)) ∧ n' = n ∧ M' = Mb)) 0 0 (fm_A b)) (hbd : Met l y_Pr_boundsFit (Cond.code y_Pr_boundsFit b_Pr_boundsFit 2 (some .boolean) :: fm_T0) ({ frames := 0, cells := 0, slots := 0, locals := 0 }) (fm_Pc fm_lay fm_nf fm_fk fm_cl b x D dA (fm_tys dA) (fm_EX b x) false [.ref 60, .ref tr] n (Mb)) (fm_Qc fm_lay fm_nf fm_fk fm_cl b x D dA (fun r n' M' => r = some (.int (nI 0)) ∧ n' = n ∧ M' = Mb)) 0 0 (fm_A b)) : Met l y_Pr_perform (Cond.code y_Pr_perform b_Pr_perform 6 (some .int) :: fm_T0) ({ frames := 3, cells := 0, slots := 0, locals := 90 }) (fm_Pc fm_lay fm_nf fm_fk fm_cl b x D dA (fm_tys dA) (fm_EX b x) false [.ref 60, .ref tr, .ref sc, .ref tb, .int (nI he)] n M) (fm_Qc fm_lay fm_nf fm_fk fm_cl b x D dA (fun r n' M' => r = some (.int (nI 5)) ∧ n' = n ∧ M' = Mb)) 0 0 (fm_A b) := by
  refine fm_enter (by decide) (Nat.le_of_ble_eq_true rfl) ?_
  intro p e s m args below meth c9 hc hr hnm hex htg
  refine fm_aload_n hc d_Pr_perform_0 rfl rfl ?_
  refine fm_dup hc d_Pr_perform_1 rfl ?_
  refine fm_getI (k := 3) hc K_Tr d_Pr_perform_2 q_184 rfl (by omega) tn tl (by decide) (by decide) rfl ?_
  refine fm_top (congrArg Value.int hfu) ?_
  refine fm_iconst (v := nI 1) hc d_Pr_perform_5 rfl ?_
  refine fm_isub hc d_Pr_perform_6 ?_
  refine fm_top (congrArg Value.int (pk_sub (a := fu) (b := 1) (by omega))) ?_
  refine fm_putI (k := 3) (v := nI (fu - 1)) hc K_Tr d_Pr_perform_7 q_184 rfl (by omega) tn tl (by decide) (by decide) rfl rfl rfl rfl ?_
  refine fm_aload_n hc d_Pr_perform_10 rfl rfl ?_
  refine fm_aload_n hc d_Pr_perform_11 rfl rfl ?_
  refine fm_aload_n hc d_Pr_perform_12 rfl rfl ?_
  refine fm_callV (av := [.ref tr, .ref sc]) (rest := []) (ob := 60) (ci := 10) (r0 := ("AgentNet$Processor", F_Pr, 6)) (y := y_Pr_read) (bytes := b_Pr_read) hc fm_T0_good (fm_EX_st b x) hex q_598 q_4 q_595 q_597 qs_Pr_read pd_Pr_read (by decide) (by omega) (by decide) (by decide) rfl rfl (hrd) ⟨rfl, rfl, Nat.le_of_ble_eq_true rfl, Nat.le_of_ble_eq_true rfl⟩ ⟨Nat.le_of_ble_eq_true rfl, Nat.le_of_ble_eq_true rfl⟩ d_Pr_perform_13 (Nat.le_of_ble_eq_true rfl) (fun r n2 M2 hp => ?_)
  obtain ⟨rfl, hq1, hq2⟩ := hp
  replace hq1 := hq1.symm
  replace hq2 := hq2.symm
  subst hq1 hq2
  refine fm_cnt (z' := (0, 0)) rfl (fm_st (st' := [.int (nI 1)]) rfl ?_)
  refine fm_if_eq (tgt := 35) hc d_Pr_perform_16 rfl (fun g => absurd g (by decide)) (fun _ => ?_)
  refine fm_aload_n hc d_Pr_perform_19 rfl rfl ?_
  refine fm_aload_n hc d_Pr_perform_20 rfl rfl ?_
  refine fm_callV (av := [.ref tr]) (rest := []) (ob := 60) (ci := 10) (r0 := ("AgentNet$Processor", F_Pr, 6)) (y := y_Pr_takesFit) (bytes := b_Pr_takesFit) hc fm_T0_good (fm_EX_st b x) hex q_608 q_4 q_605 q_607 qs_Pr_takesFit pd_Pr_takesFit (by decide) (by omega) (by decide) (by decide) rfl rfl (htk) ⟨rfl, rfl, Nat.le_of_ble_eq_true rfl, Nat.le_of_ble_eq_true rfl⟩ ⟨Nat.le_of_ble_eq_true rfl, Nat.le_of_ble_eq_true rfl⟩ d_Pr_perform_21 (Nat.le_of_ble_eq_true rfl) (fun r n2 M2 hp => ?_)
  obtain ⟨rfl, hq1, hq2⟩ := hp
  replace hq1 := hq1.symm
  replace hq2 := hq2.symm
  subst hq1 hq2
  refine fm_cnt (z' := (0, 0)) rfl (fm_st (st' := [.int (nI 1)]) rfl ?_)
  refine fm_if_eq (tgt := 35) hc d_Pr_perform_24 rfl (fun g => absurd g (by decide)) (fun _ => ?_)
  refine fm_aload_n hc d_Pr_perform_27 rfl rfl ?_
  refine fm_aload_n hc d_Pr_perform_28 rfl rfl ?_
  refine fm_callV (av := [.ref tr]) (rest := []) (ob := 60) (ci := 10) (r0 := ("AgentNet$Processor", F_Pr, 6)) (y := y_Pr_boundsFit) (bytes := b_Pr_boundsFit) hc fm_T0_good (fm_EX_st b x) hex q_624 q_4 q_621 q_623 qs_Pr_boundsFit pd_Pr_boundsFit (by decide) (by omega) (by decide) (by decide) rfl rfl (hbd) ⟨rfl, rfl, Nat.le_of_ble_eq_true rfl, Nat.le_of_ble_eq_true rfl⟩ ⟨Nat.le_of_ble_eq_true rfl, Nat.le_of_ble_eq_true rfl⟩ d_Pr_perform_29 (Nat.le_of_ble_eq_true rfl) (fun r n2 M2 hp => ?_)
  obtain ⟨rfl, hq1, hq2⟩ := hp
  replace hq1 := hq1.symm
  replace hq2 := hq2.symm
  subst hq1 hq2
  refine fm_cnt (z' := (0, 0)) rfl (fm_st (st' := [.int (nI 0)]) rfl ?_)
  refine fm_if_ne (tgt := 37) hc d_Pr_perform_32 rfl (fun g => absurd (by decide) g) (fun _ => ?_)
  refine fm_iconst (v := nI 5) hc d_Pr_perform_35 rfl ?_
  exact fm_iret hc hr d_Pr_perform_36 (Nat.le_refl _) (Nat.le_refl _) ⟨rfl, rfl, rfl⟩
theorem perf_plain {l : Launch} {b : Nat} {x : Nat → Nat} {D : va_G} {dA : Nat → ClassId} {tr sc tb he fu pl c d : Nat} {t : Int32} {Ma Mb Mc : fm_M} {PR : fm_M → Prop} {n : Nat} {M : fm_M} (hn : 586 ≤ n) (t8 : 70 ≤ tr) (tn : tr < n) (tl : (fm_lay tr).1 = 5) (hfu : M.1 tr 3 = nI fu) (hf1 : 1 ≤ fu) (hrd : Met l y_Pr_read (Cond.code y_Pr_read b_Pr_read 3 (some .boolean) :: fm_T0) ({ frames := 1, cells := 0, slots := 0, locals := 25 }) (fm_Pc fm_lay fm_nf fm_fk fm_cl b x D dA (fm_tys dA) (fm_EX b x) false [.ref 60, .ref tr, .ref sc] n (fm_put1 M tr 3 (nI (fu - 1)))) (fm_Qc fm_lay fm_nf fm_fk fm_cl b x D dA (fun r n' M' => r = some (.int (nI 1)) ∧ n' = n ∧ M' = Ma)) 0 0 (fm_A b)) (htk : Met l y_Pr_takesFit (Cond.code y_Pr_takesFit b_Pr_takesFit 3 (some .boolean) :: fm_T0) ({ frames := 2, cells := 0, slots := 0, locals := 50 }) (fm_Pc fm_lay fm_nf fm_fk fm_cl b x D dA (fm_tys dA) (fm_EX b x) false [.ref 60, .ref tr] n (Ma)) (fm_Qc fm_lay fm_nf fm_fk fm_cl b x D dA (fun r n' M' => r = some (.int (nI 1)) ∧ n' = n ∧ M' = Mb)) 0 0 (fm_A b)) (hbd : Met l y_Pr_boundsFit (Cond.code y_Pr_boundsFit b_Pr_boundsFit 2 (some .boolean) :: fm_T0) ({ frames := 0, cells := 0, slots := 0, locals := 0 }) (fm_Pc fm_lay fm_nf fm_fk fm_cl b x D dA (fm_tys dA) (fm_EX b x) false [.ref 60, .ref tr] n (Mb)) (fm_Qc fm_lay fm_nf fm_fk fm_cl b x D dA (fun r n' M' => r = some (.int (nI 1)) ∧ n' = n ∧ M' = Mb)) 0 0 (fm_A b)) (hc20 : c < 20) (hcd : Mb.1 60 1 = nI c) (hpl : Mb.1 tr 2 = nI pl) (hd : Mb.1 tr 8 = nI d) (htk2 : ag_tk c ≤ d) (hN6 : Mc.2.2 60 0 = some 61) (hcc : c < 14) (hdo : Met l y_Pr_doPlain (Cond.code y_Pr_doPlain b_Pr_doPlain 4 (some .int) :: fm_T0) ({ frames := 2, cells := 0, slots := 0, locals := 60 }) (fm_Pc fm_lay fm_nf fm_fk fm_cl b x D dA (fm_tys dA) (fm_EX b x) false [.ref 60, .ref tr, .ref tb, .int (nI he)] n (fm_put1 (fm_put1 Mb tr 2 (nI (pl + ag_sz c))) tr 8 (nI (d - ag_tk c)))) (fm_Qc fm_lay fm_nf fm_fk fm_cl b x D dA (fun r n' M' => r = some (.int t) ∧ n' = n ∧ M' = Mc)) 0 0 (fm_A b)) (hrn : Met l y_Nu_renumber (Cond.code y_Nu_renumber b_Nu_renumber 3 none :: fm_T0) ({ frames := 2, cells := 0, slots := 0, locals := 45 }) (fm_Pc fm_lay fm_nf fm_fk fm_cl b x D dA (fm_tys dA) (fm_EX b x) false [.ref 61, .ref tr] n (Mc)) (fm_Qc fm_lay fm_nf fm_fk fm_cl b x D dA (fun r n' M' => r = none ∧ n' = n ∧ PR M')) 0 0 (fm_A b)) : Met l y_Pr_perform (Cond.code y_Pr_perform b_Pr_perform 6 (some .int) :: fm_T0) ({ frames := 3, cells := 0, slots := 0, locals := 90 }) (fm_Pc fm_lay fm_nf fm_fk fm_cl b x D dA (fm_tys dA) (fm_EX b x) false [.ref 60, .ref tr, .ref sc, .ref tb, .int (nI he)] n M) (fm_Qc fm_lay fm_nf fm_fk fm_cl b x D dA (fun r n' M' => r = some (.int t) ∧ n' = n ∧ PR M')) 0 0 (fm_A b) := by
  refine fm_enter (by decide) (Nat.le_of_ble_eq_true rfl) ?_
  intro p e s m args below meth c9 hc hr hnm hex htg
  refine fm_aload_n hc d_Pr_perform_0 rfl rfl ?_
  refine fm_dup hc d_Pr_perform_1 rfl ?_
  refine fm_getI (k := 3) hc K_Tr d_Pr_perform_2 q_184 rfl (by omega) tn tl (by decide) (by decide) rfl ?_
  refine fm_top (congrArg Value.int hfu) ?_
  refine fm_iconst (v := nI 1) hc d_Pr_perform_5 rfl ?_
  refine fm_isub hc d_Pr_perform_6 ?_
  refine fm_top (congrArg Value.int (pk_sub (a := fu) (b := 1) (by omega))) ?_
  refine fm_putI (k := 3) (v := nI (fu - 1)) hc K_Tr d_Pr_perform_7 q_184 rfl (by omega) tn tl (by decide) (by decide) rfl rfl rfl rfl ?_
  refine fm_aload_n hc d_Pr_perform_10 rfl rfl ?_
  refine fm_aload_n hc d_Pr_perform_11 rfl rfl ?_
  refine fm_aload_n hc d_Pr_perform_12 rfl rfl ?_
  refine fm_callV (av := [.ref tr, .ref sc]) (rest := []) (ob := 60) (ci := 10) (r0 := ("AgentNet$Processor", F_Pr, 6)) (y := y_Pr_read) (bytes := b_Pr_read) hc fm_T0_good (fm_EX_st b x) hex q_598 q_4 q_595 q_597 qs_Pr_read pd_Pr_read (by decide) (by omega) (by decide) (by decide) rfl rfl (hrd) ⟨rfl, rfl, Nat.le_of_ble_eq_true rfl, Nat.le_of_ble_eq_true rfl⟩ ⟨Nat.le_of_ble_eq_true rfl, Nat.le_of_ble_eq_true rfl⟩ d_Pr_perform_13 (Nat.le_of_ble_eq_true rfl) (fun r n2 M2 hp => ?_)
  obtain ⟨rfl, hq1, hq2⟩ := hp
  replace hq1 := hq1.symm
  replace hq2 := hq2.symm
  subst hq1 hq2
  refine fm_cnt (z' := (0, 0)) rfl (fm_st (st' := [.int (nI 1)]) rfl ?_)
  refine fm_if_eq (tgt := 35) hc d_Pr_perform_16 rfl (fun g => absurd g (by decide)) (fun _ => ?_)
  refine fm_aload_n hc d_Pr_perform_19 rfl rfl ?_
  refine fm_aload_n hc d_Pr_perform_20 rfl rfl ?_
  refine fm_callV (av := [.ref tr]) (rest := []) (ob := 60) (ci := 10) (r0 := ("AgentNet$Processor", F_Pr, 6)) (y := y_Pr_takesFit) (bytes := b_Pr_takesFit) hc fm_T0_good (fm_EX_st b x) hex q_608 q_4 q_605 q_607 qs_Pr_takesFit pd_Pr_takesFit (by decide) (by omega) (by decide) (by decide) rfl rfl (htk) ⟨rfl, rfl, Nat.le_of_ble_eq_true rfl, Nat.le_of_ble_eq_true rfl⟩ ⟨Nat.le_of_ble_eq_true rfl, Nat.le_of_ble_eq_true rfl⟩ d_Pr_perform_21 (Nat.le_of_ble_eq_true rfl) (fun r n2 M2 hp => ?_)
  obtain ⟨rfl, hq1, hq2⟩ := hp
  replace hq1 := hq1.symm
  replace hq2 := hq2.symm
  subst hq1 hq2
  refine fm_cnt (z' := (0, 0)) rfl (fm_st (st' := [.int (nI 1)]) rfl ?_)
  refine fm_if_eq (tgt := 35) hc d_Pr_perform_24 rfl (fun g => absurd g (by decide)) (fun _ => ?_)
  refine fm_aload_n hc d_Pr_perform_27 rfl rfl ?_
  refine fm_aload_n hc d_Pr_perform_28 rfl rfl ?_
  refine fm_callV (av := [.ref tr]) (rest := []) (ob := 60) (ci := 10) (r0 := ("AgentNet$Processor", F_Pr, 6)) (y := y_Pr_boundsFit) (bytes := b_Pr_boundsFit) hc fm_T0_good (fm_EX_st b x) hex q_624 q_4 q_621 q_623 qs_Pr_boundsFit pd_Pr_boundsFit (by decide) (by omega) (by decide) (by decide) rfl rfl (hbd) ⟨rfl, rfl, Nat.le_of_ble_eq_true rfl, Nat.le_of_ble_eq_true rfl⟩ ⟨Nat.le_of_ble_eq_true rfl, Nat.le_of_ble_eq_true rfl⟩ d_Pr_perform_29 (Nat.le_of_ble_eq_true rfl) (fun r n2 M2 hp => ?_)
  obtain ⟨rfl, hq1, hq2⟩ := hp
  replace hq1 := hq1.symm
  replace hq2 := hq2.symm
  subst hq1 hq2
  refine fm_cnt (z' := (0, 0)) rfl (fm_st (st' := [.int (nI 1)]) rfl ?_)
  refine fm_if_ne (tgt := 37) hc d_Pr_perform_32 rfl (fun _ => ?_) (fun g => absurd g (by decide))
  refine fm_aload_n hc d_Pr_perform_37 rfl rfl ?_
  refine fm_dup hc d_Pr_perform_38 rfl ?_
  refine fm_getI (k := 2) hc K_Tr d_Pr_perform_39 q_181 rfl (by omega) tn tl (by decide) (by decide) rfl ?_
  refine fm_top (congrArg Value.int hpl) ?_
  refine fm_gets (o := 1) hc d_Pr_perform_42 q_603 (by decide) (tb_Z0 hex) ?_
  refine fm_aload_n hc d_Pr_perform_45 rfl rfl ?_
  refine fm_getI (k := 1) hc K_Pr d_Pr_perform_46 q_124 rfl (by decide) (by omega) (by decide) (by decide) (by decide) rfl ?_
  refine fm_top (congrArg Value.int hcd) ?_
  refine fm_tald (o := 1) (j := c) (len := 20) hc d_Pr_perform_49 (by decide) (tb_T0 hex) (by omega) (by decide) ?_
  refine fm_top (congrArg Value.int (tab_sz c hc20)) ?_
  refine fm_iadd hc d_Pr_perform_50 ?_
  refine fm_top (congrArg Value.int (nI_add pl (ag_sz c))) ?_
  refine fm_putI (k := 2) (v := nI (pl + (ag_sz c))) hc K_Tr d_Pr_perform_51 q_181 rfl (by omega) tn tl (by decide) (by decide) rfl rfl rfl rfl ?_
  refine fm_aload_n hc d_Pr_perform_54 rfl rfl ?_
  refine fm_dup hc d_Pr_perform_55 rfl ?_
  refine fm_getI (k := 8) hc K_Tr d_Pr_perform_56 q_210 rfl (by omega) tn tl (by decide) (by decide) rfl ?_
  refine fm_top (congrArg Value.int ((p1_at (by decide)).trans hd)) ?_
  refine fm_gets (o := 2) hc d_Pr_perform_59 q_609 (by decide) (tb_Z1 hex) ?_
  refine fm_aload_n hc d_Pr_perform_62 rfl rfl ?_
  refine fm_getI (k := 1) hc K_Pr d_Pr_perform_63 q_124 rfl (by decide) (by omega) (by decide) (by decide) (by decide) rfl ?_
  refine fm_top (congrArg Value.int ((p1_other (by omega)).trans hcd)) ?_
  refine fm_tald (o := 2) (j := c) (len := 20) hc d_Pr_perform_66 (by decide) (tb_T1 hex) (by omega) (by decide) ?_
  refine fm_top (congrArg Value.int (tab_tk c hc20)) ?_
  refine fm_isub hc d_Pr_perform_67 ?_
  refine fm_top (congrArg Value.int (pk_sub (a := d) (b := ag_tk c) (by omega))) ?_
  refine fm_putI (k := 8) (v := nI (d - (ag_tk c))) hc K_Tr d_Pr_perform_68 q_210 rfl (by omega) tn tl (by decide) (by decide) rfl rfl rfl rfl ?_
  refine fm_aload_n hc d_Pr_perform_71 rfl rfl ?_
  refine fm_getI (k := 1) hc K_Pr d_Pr_perform_72 q_124 rfl (by decide) (by omega) (by decide) (by decide) (by decide) rfl ?_
  refine fm_top (congrArg Value.int ((p1_other (by omega)).trans ((p1_other (by omega)).trans hcd))) ?_
  refine fm_bipush (v := nI 14) hc d_Pr_perform_75 rfl ?_
  refine fm_icmp_lt (tgt := 88) hc d_Pr_perform_77 rfl (fun _ => ?_) (fun g => absurd (nI_lt hcc (by omega)) g)
  refine fm_aload_n hc d_Pr_perform_88 rfl rfl ?_
  refine fm_aload_n hc d_Pr_perform_89 rfl rfl ?_
  refine fm_aload_n hc d_Pr_perform_90 rfl rfl ?_
  refine fm_iload hc d_Pr_perform_91 rfl ?_
  refine fm_callV (av := [.ref tr, .ref tb, .int (nI he)]) (rest := []) (ob := 60) (ci := 10) (r0 := ("AgentNet$Processor", F_Pr, 6)) (y := y_Pr_doPlain) (bytes := b_Pr_doPlain) hc fm_T0_good (fm_EX_st b x) hex q_645 q_4 q_642 q_644 qs_Pr_doPlain pd_Pr_doPlain (by decide) (by omega) (by decide) (by decide) rfl rfl (hdo) ⟨rfl, rfl, Nat.le_of_ble_eq_true rfl, Nat.le_of_ble_eq_true rfl⟩ ⟨Nat.le_of_ble_eq_true rfl, Nat.le_of_ble_eq_true rfl⟩ d_Pr_perform_93 (Nat.le_of_ble_eq_true rfl) (fun r n2 M2 hp => ?_)
  obtain ⟨rfl, hq1, hq2⟩ := hp
  replace hq1 := hq1.symm
  replace hq2 := hq2.symm
  subst hq1 hq2
  refine fm_cnt (z' := (0, 0)) rfl (fm_st (st' := [.int t]) rfl ?_)
  refine fm_istore (lv' := [(5, .int t), (0, .ref 60), (1, .ref tr), (2, .ref sc), (3, .ref tb), (4, .int (nI he))]) hc d_Pr_perform_96 (by decide) rfl ?_
  refine fm_aload_n hc d_Pr_perform_98 rfl rfl ?_
  refine fm_getR (k := 0) (q := 61) hc K_Pr d_Pr_perform_99 q_123 rfl (by decide) (by omega) (by decide) (by decide) (by decide) rfl hN6 ?_
  refine fm_aload_n hc d_Pr_perform_102 rfl rfl ?_
  refine fm_callV (av := [.ref tr]) (rest := []) (ob := 61) (ci := 3) (r0 := ("AgentNet$Numbering", F_Nu, 5)) (y := y_Nu_renumber) (bytes := b_Nu_renumber) hc fm_T0_good (fm_EX_st b x) hex q_662 q_5 q_659 q_660 q_661 pd_Nu_renumber (by decide) (by omega) (by decide) (by decide) rfl rfl (hrn) ⟨rfl, rfl, Nat.le_of_ble_eq_true rfl, Nat.le_of_ble_eq_true rfl⟩ ⟨Nat.le_of_ble_eq_true rfl, Nat.le_of_ble_eq_true rfl⟩ d_Pr_perform_103 (Nat.le_of_ble_eq_true rfl) (fun r n2 M2 hp => ?_)
  obtain ⟨rfl, hq1, hpp⟩ := hp
  replace hq1 := hq1.symm
  subst hq1
  refine fm_cnt (z' := (0, 0)) rfl (fm_st (st' := []) rfl ?_)
  refine fm_iload hc d_Pr_perform_106 rfl ?_
  exact fm_iret hc hr d_Pr_perform_108 (Nat.le_refl _) (Nat.le_refl _) ⟨rfl, rfl, hpp⟩
theorem perf_pairs {l : Launch} {b : Nat} {x : Nat → Nat} {D : va_G} {dA : Nat → ClassId} {tr sc tb he fu pl c d : Nat} {t : Int32} {Ma Mb Mc : fm_M} {PR : fm_M → Prop} {n : Nat} {M : fm_M} (hn : 586 ≤ n) (t8 : 70 ≤ tr) (tn : tr < n) (tl : (fm_lay tr).1 = 5) (hfu : M.1 tr 3 = nI fu) (hf1 : 1 ≤ fu) (hrd : Met l y_Pr_read (Cond.code y_Pr_read b_Pr_read 3 (some .boolean) :: fm_T0) ({ frames := 1, cells := 0, slots := 0, locals := 25 }) (fm_Pc fm_lay fm_nf fm_fk fm_cl b x D dA (fm_tys dA) (fm_EX b x) false [.ref 60, .ref tr, .ref sc] n (fm_put1 M tr 3 (nI (fu - 1)))) (fm_Qc fm_lay fm_nf fm_fk fm_cl b x D dA (fun r n' M' => r = some (.int (nI 1)) ∧ n' = n ∧ M' = Ma)) 0 0 (fm_A b)) (htk : Met l y_Pr_takesFit (Cond.code y_Pr_takesFit b_Pr_takesFit 3 (some .boolean) :: fm_T0) ({ frames := 2, cells := 0, slots := 0, locals := 50 }) (fm_Pc fm_lay fm_nf fm_fk fm_cl b x D dA (fm_tys dA) (fm_EX b x) false [.ref 60, .ref tr] n (Ma)) (fm_Qc fm_lay fm_nf fm_fk fm_cl b x D dA (fun r n' M' => r = some (.int (nI 1)) ∧ n' = n ∧ M' = Mb)) 0 0 (fm_A b)) (hbd : Met l y_Pr_boundsFit (Cond.code y_Pr_boundsFit b_Pr_boundsFit 2 (some .boolean) :: fm_T0) ({ frames := 0, cells := 0, slots := 0, locals := 0 }) (fm_Pc fm_lay fm_nf fm_fk fm_cl b x D dA (fm_tys dA) (fm_EX b x) false [.ref 60, .ref tr] n (Mb)) (fm_Qc fm_lay fm_nf fm_fk fm_cl b x D dA (fun r n' M' => r = some (.int (nI 1)) ∧ n' = n ∧ M' = Mb)) 0 0 (fm_A b)) (hc20 : c < 20) (hcd : Mb.1 60 1 = nI c) (hpl : Mb.1 tr 2 = nI pl) (hd : Mb.1 tr 8 = nI d) (htk2 : ag_tk c ≤ d) (hN6 : Mc.2.2 60 0 = some 61) (hcc : 14 ≤ c) (hdo : Met l y_Pr_doPairs (Cond.code y_Pr_doPairs b_Pr_doPairs 3 (some .int) :: fm_T0) ({ frames := 2, cells := 0, slots := 0, locals := 60 }) (fm_Pc fm_lay fm_nf fm_fk fm_cl b x D dA (fm_tys dA) (fm_EX b x) false [.ref 60, .ref tr] n (fm_put1 (fm_put1 Mb tr 2 (nI (pl + ag_sz c))) tr 8 (nI (d - ag_tk c)))) (fm_Qc fm_lay fm_nf fm_fk fm_cl b x D dA (fun r n' M' => r = some (.int t) ∧ n' = n ∧ M' = Mc)) 0 0 (fm_A b)) (hrn : Met l y_Nu_renumber (Cond.code y_Nu_renumber b_Nu_renumber 3 none :: fm_T0) ({ frames := 2, cells := 0, slots := 0, locals := 45 }) (fm_Pc fm_lay fm_nf fm_fk fm_cl b x D dA (fm_tys dA) (fm_EX b x) false [.ref 61, .ref tr] n (Mc)) (fm_Qc fm_lay fm_nf fm_fk fm_cl b x D dA (fun r n' M' => r = none ∧ n' = n ∧ PR M')) 0 0 (fm_A b)) : Met l y_Pr_perform (Cond.code y_Pr_perform b_Pr_perform 6 (some .int) :: fm_T0) ({ frames := 3, cells := 0, slots := 0, locals := 90 }) (fm_Pc fm_lay fm_nf fm_fk fm_cl b x D dA (fm_tys dA) (fm_EX b x) false [.ref 60, .ref tr, .ref sc, .ref tb, .int (nI he)] n M) (fm_Qc fm_lay fm_nf fm_fk fm_cl b x D dA (fun r n' M' => r = some (.int t) ∧ n' = n ∧ PR M')) 0 0 (fm_A b) := by
  refine fm_enter (by decide) (Nat.le_of_ble_eq_true rfl) ?_
  intro p e s m args below meth c9 hc hr hnm hex htg
  refine fm_aload_n hc d_Pr_perform_0 rfl rfl ?_
  refine fm_dup hc d_Pr_perform_1 rfl ?_
  refine fm_getI (k := 3) hc K_Tr d_Pr_perform_2 q_184 rfl (by omega) tn tl (by decide) (by decide) rfl ?_
  refine fm_top (congrArg Value.int hfu) ?_
  refine fm_iconst (v := nI 1) hc d_Pr_perform_5 rfl ?_
  refine fm_isub hc d_Pr_perform_6 ?_
  refine fm_top (congrArg Value.int (pk_sub (a := fu) (b := 1) (by omega))) ?_
  refine fm_putI (k := 3) (v := nI (fu - 1)) hc K_Tr d_Pr_perform_7 q_184 rfl (by omega) tn tl (by decide) (by decide) rfl rfl rfl rfl ?_
  refine fm_aload_n hc d_Pr_perform_10 rfl rfl ?_
  refine fm_aload_n hc d_Pr_perform_11 rfl rfl ?_
  refine fm_aload_n hc d_Pr_perform_12 rfl rfl ?_
  refine fm_callV (av := [.ref tr, .ref sc]) (rest := []) (ob := 60) (ci := 10) (r0 := ("AgentNet$Processor", F_Pr, 6)) (y := y_Pr_read) (bytes := b_Pr_read) hc fm_T0_good (fm_EX_st b x) hex q_598 q_4 q_595 q_597 qs_Pr_read pd_Pr_read (by decide) (by omega) (by decide) (by decide) rfl rfl (hrd) ⟨rfl, rfl, Nat.le_of_ble_eq_true rfl, Nat.le_of_ble_eq_true rfl⟩ ⟨Nat.le_of_ble_eq_true rfl, Nat.le_of_ble_eq_true rfl⟩ d_Pr_perform_13 (Nat.le_of_ble_eq_true rfl) (fun r n2 M2 hp => ?_)
  obtain ⟨rfl, hq1, hq2⟩ := hp
  replace hq1 := hq1.symm
  replace hq2 := hq2.symm
  subst hq1 hq2
  refine fm_cnt (z' := (0, 0)) rfl (fm_st (st' := [.int (nI 1)]) rfl ?_)
  refine fm_if_eq (tgt := 35) hc d_Pr_perform_16 rfl (fun g => absurd g (by decide)) (fun _ => ?_)
  refine fm_aload_n hc d_Pr_perform_19 rfl rfl ?_
  refine fm_aload_n hc d_Pr_perform_20 rfl rfl ?_
  refine fm_callV (av := [.ref tr]) (rest := []) (ob := 60) (ci := 10) (r0 := ("AgentNet$Processor", F_Pr, 6)) (y := y_Pr_takesFit) (bytes := b_Pr_takesFit) hc fm_T0_good (fm_EX_st b x) hex q_608 q_4 q_605 q_607 qs_Pr_takesFit pd_Pr_takesFit (by decide) (by omega) (by decide) (by decide) rfl rfl (htk) ⟨rfl, rfl, Nat.le_of_ble_eq_true rfl, Nat.le_of_ble_eq_true rfl⟩ ⟨Nat.le_of_ble_eq_true rfl, Nat.le_of_ble_eq_true rfl⟩ d_Pr_perform_21 (Nat.le_of_ble_eq_true rfl) (fun r n2 M2 hp => ?_)
  obtain ⟨rfl, hq1, hq2⟩ := hp
  replace hq1 := hq1.symm
  replace hq2 := hq2.symm
  subst hq1 hq2
  refine fm_cnt (z' := (0, 0)) rfl (fm_st (st' := [.int (nI 1)]) rfl ?_)
  refine fm_if_eq (tgt := 35) hc d_Pr_perform_24 rfl (fun g => absurd g (by decide)) (fun _ => ?_)
  refine fm_aload_n hc d_Pr_perform_27 rfl rfl ?_
  refine fm_aload_n hc d_Pr_perform_28 rfl rfl ?_
  refine fm_callV (av := [.ref tr]) (rest := []) (ob := 60) (ci := 10) (r0 := ("AgentNet$Processor", F_Pr, 6)) (y := y_Pr_boundsFit) (bytes := b_Pr_boundsFit) hc fm_T0_good (fm_EX_st b x) hex q_624 q_4 q_621 q_623 qs_Pr_boundsFit pd_Pr_boundsFit (by decide) (by omega) (by decide) (by decide) rfl rfl (hbd) ⟨rfl, rfl, Nat.le_of_ble_eq_true rfl, Nat.le_of_ble_eq_true rfl⟩ ⟨Nat.le_of_ble_eq_true rfl, Nat.le_of_ble_eq_true rfl⟩ d_Pr_perform_29 (Nat.le_of_ble_eq_true rfl) (fun r n2 M2 hp => ?_)
  obtain ⟨rfl, hq1, hq2⟩ := hp
  replace hq1 := hq1.symm
  replace hq2 := hq2.symm
  subst hq1 hq2
  refine fm_cnt (z' := (0, 0)) rfl (fm_st (st' := [.int (nI 1)]) rfl ?_)
  refine fm_if_ne (tgt := 37) hc d_Pr_perform_32 rfl (fun _ => ?_) (fun g => absurd g (by decide))
  refine fm_aload_n hc d_Pr_perform_37 rfl rfl ?_
  refine fm_dup hc d_Pr_perform_38 rfl ?_
  refine fm_getI (k := 2) hc K_Tr d_Pr_perform_39 q_181 rfl (by omega) tn tl (by decide) (by decide) rfl ?_
  refine fm_top (congrArg Value.int hpl) ?_
  refine fm_gets (o := 1) hc d_Pr_perform_42 q_603 (by decide) (tb_Z0 hex) ?_
  refine fm_aload_n hc d_Pr_perform_45 rfl rfl ?_
  refine fm_getI (k := 1) hc K_Pr d_Pr_perform_46 q_124 rfl (by decide) (by omega) (by decide) (by decide) (by decide) rfl ?_
  refine fm_top (congrArg Value.int hcd) ?_
  refine fm_tald (o := 1) (j := c) (len := 20) hc d_Pr_perform_49 (by decide) (tb_T0 hex) (by omega) (by decide) ?_
  refine fm_top (congrArg Value.int (tab_sz c hc20)) ?_
  refine fm_iadd hc d_Pr_perform_50 ?_
  refine fm_top (congrArg Value.int (nI_add pl (ag_sz c))) ?_
  refine fm_putI (k := 2) (v := nI (pl + (ag_sz c))) hc K_Tr d_Pr_perform_51 q_181 rfl (by omega) tn tl (by decide) (by decide) rfl rfl rfl rfl ?_
  refine fm_aload_n hc d_Pr_perform_54 rfl rfl ?_
  refine fm_dup hc d_Pr_perform_55 rfl ?_
  refine fm_getI (k := 8) hc K_Tr d_Pr_perform_56 q_210 rfl (by omega) tn tl (by decide) (by decide) rfl ?_
  refine fm_top (congrArg Value.int ((p1_at (by decide)).trans hd)) ?_
  refine fm_gets (o := 2) hc d_Pr_perform_59 q_609 (by decide) (tb_Z1 hex) ?_
  refine fm_aload_n hc d_Pr_perform_62 rfl rfl ?_
  refine fm_getI (k := 1) hc K_Pr d_Pr_perform_63 q_124 rfl (by decide) (by omega) (by decide) (by decide) (by decide) rfl ?_
  refine fm_top (congrArg Value.int ((p1_other (by omega)).trans hcd)) ?_
  refine fm_tald (o := 2) (j := c) (len := 20) hc d_Pr_perform_66 (by decide) (tb_T1 hex) (by omega) (by decide) ?_
  refine fm_top (congrArg Value.int (tab_tk c hc20)) ?_
  refine fm_isub hc d_Pr_perform_67 ?_
  refine fm_top (congrArg Value.int (pk_sub (a := d) (b := ag_tk c) (by omega))) ?_
  refine fm_putI (k := 8) (v := nI (d - (ag_tk c))) hc K_Tr d_Pr_perform_68 q_210 rfl (by omega) tn tl (by decide) (by decide) rfl rfl rfl rfl ?_
  refine fm_aload_n hc d_Pr_perform_71 rfl rfl ?_
  refine fm_getI (k := 1) hc K_Pr d_Pr_perform_72 q_124 rfl (by decide) (by omega) (by decide) (by decide) (by decide) rfl ?_
  refine fm_top (congrArg Value.int ((p1_other (by omega)).trans ((p1_other (by omega)).trans hcd))) ?_
  refine fm_bipush (v := nI 14) hc d_Pr_perform_75 rfl ?_
  refine fm_icmp_lt (tgt := 88) hc d_Pr_perform_77 rfl (fun g => absurd g (hnlt (a := c) (c := 14) hcc (by omega))) (fun _ => ?_)
  refine fm_aload_n hc d_Pr_perform_80 rfl rfl ?_
  refine fm_aload_n hc d_Pr_perform_81 rfl rfl ?_
  refine fm_callV (av := [.ref tr]) (rest := []) (ob := 60) (ci := 10) (r0 := ("AgentNet$Processor", F_Pr, 6)) (y := y_Pr_doPairs) (bytes := b_Pr_doPairs) hc fm_T0_good (fm_EX_st b x) hex q_630 q_4 q_627 q_629 qs_Pr_doPairs pd_Pr_doPairs (by decide) (by omega) (by decide) (by decide) rfl rfl (hdo) ⟨rfl, rfl, Nat.le_of_ble_eq_true rfl, Nat.le_of_ble_eq_true rfl⟩ ⟨Nat.le_of_ble_eq_true rfl, Nat.le_of_ble_eq_true rfl⟩ d_Pr_perform_82 (Nat.le_of_ble_eq_true rfl) (fun r n2 M2 hp => ?_)
  obtain ⟨rfl, hq1, hq2⟩ := hp
  replace hq1 := hq1.symm
  replace hq2 := hq2.symm
  subst hq1 hq2
  refine fm_cnt (z' := (0, 0)) rfl (fm_st (st' := [.int t]) rfl ?_)
  refine fm_goto (tgt := 96) hc d_Pr_perform_85 rfl ?_
  refine fm_istore (lv' := [(5, .int t), (0, .ref 60), (1, .ref tr), (2, .ref sc), (3, .ref tb), (4, .int (nI he))]) hc d_Pr_perform_96 (by decide) rfl ?_
  refine fm_aload_n hc d_Pr_perform_98 rfl rfl ?_
  refine fm_getR (k := 0) (q := 61) hc K_Pr d_Pr_perform_99 q_123 rfl (by decide) (by omega) (by decide) (by decide) (by decide) rfl hN6 ?_
  refine fm_aload_n hc d_Pr_perform_102 rfl rfl ?_
  refine fm_callV (av := [.ref tr]) (rest := []) (ob := 61) (ci := 3) (r0 := ("AgentNet$Numbering", F_Nu, 5)) (y := y_Nu_renumber) (bytes := b_Nu_renumber) hc fm_T0_good (fm_EX_st b x) hex q_662 q_5 q_659 q_660 q_661 pd_Nu_renumber (by decide) (by omega) (by decide) (by decide) rfl rfl (hrn) ⟨rfl, rfl, Nat.le_of_ble_eq_true rfl, Nat.le_of_ble_eq_true rfl⟩ ⟨Nat.le_of_ble_eq_true rfl, Nat.le_of_ble_eq_true rfl⟩ d_Pr_perform_103 (Nat.le_of_ble_eq_true rfl) (fun r n2 M2 hp => ?_)
  obtain ⟨rfl, hq1, hpp⟩ := hp
  replace hq1 := hq1.symm
  subst hq1
  refine fm_cnt (z' := (0, 0)) rfl (fm_st (st' := []) rfl ?_)
  refine fm_iload hc d_Pr_perform_106 rfl ?_
  exact fm_iret hc hr d_Pr_perform_108 (Nat.le_refl _) (Nat.le_refl _) ⟨rfl, rfl, hpp⟩
