/-! THE PROCESSOR reads: Script.at, read, isOfKind, takesFit -/
theorem p2_same (M : fm_M) (o k : Nat) (v : Int64) : (fm_put2 M o k v).2.1 o k = v := by simp [fm_put2, va_up]
theorem p2_other {M : fm_M} {q k o j : Nat} {v : Int64} (h : o ≠ q) : (fm_put2 M q k v).2.1 o j = M.2.1 o j := by simp [fm_put2, va_up, h]
theorem p2_at {M : fm_M} {o k j : Nat} {v : Int64} (h : j ≠ k) : (fm_put2 M o k v).2.1 o j = M.2.1 o j := by simp [fm_put2, va_up, h]
/-- the class's program p holds the bytes sc -/
def hs_S (M : fm_M) (p0 : Nat) (sc : List Nat) : Prop := M.1 (82 + 2 * p0) 1 = nI sc.length ∧ sc.length ≤ 48 ∧ M.2.2 (82 + 2 * p0) 0 = some (83 + 2 * p0) ∧ ∀ k v, sc[k]? = some v → M.1 (83 + 2 * p0) k = nI v ∧ v < 256
theorem tab_tk : ∀ c, c < 20 → fm_tab1.getD c 0 = nI (ag_tk c) := by decide
theorem tab_gv : ∀ c, c < 20 → fm_tab2.getD c 0 = nI (ag_gv c) := by decide
theorem tab_lo : ∀ c, c < 20 → fm_tab3.getD c 0 = nI (ag_lo c) := by decide
theorem tab_up : ∀ c, c < 20 → fm_tab4.getD c 0 = nI (ag_up c) := by decide
theorem tab_sz : ∀ c, c < 20 → fm_tab0.getD c 0 = nI (ag_sz c) := by decide
theorem tk_le : ∀ c, c < 20 → ag_tk c ≤ 2 ∧ ag_gv c ≤ 1 ∧ ag_lo c ≤ 2 ∧ ag_up c ≤ 2 := by decide
theorem c_at {l : Launch} {b : Nat} {x : Nat → Nat} {D : va_G} {dA : Nat → ClassId} {p0 k : Nat} {sc : List Nat} {n : Nat} {M : fm_M} (hn : 586 ≤ n) (hp : p0 < 4) (hs : hs_S M p0 sc) (hk : k < 2 ^ 30) : Met l y_Sc_at (Cond.code y_Sc_at b_Sc_at 2 (some .int) :: fm_T0) ({ frames := 0, cells := 0, slots := 0, locals := 0 }) (fm_Pc fm_lay fm_nf fm_fk fm_cl b x D dA (fm_tys dA) (fm_EX b x) false [.ref (82 + 2 * p0), .int (nI k)] n M) (fm_Qc fm_lay fm_nf fm_fk fm_cl b x D dA (fun r n' M' => r = some (.int (match sc[k]? with | some v => nI v | none => -1)) ∧ n' = n ∧ M' = M)) 0 0 (fm_A b) := by
  obtain ⟨h1, h2, h3, h4⟩ := hs
  cases hv : sc[k]? with
  | none =>
    have hl : sc.length ≤ k := List.getElem?_eq_none_iff.mp hv
    exact c_at_hi (by omega) (by omega) (ly_Sc hp) (nI_pos (by omega)) (by rw [h1]; exact nI_le hl (by omega))
  | some v =>
    have hl := (List.getElem?_eq_some_iff.mp hv).1
    have h5 := c_at_ok (l := l) (b := b) (x := x) (D := D) (dA := dA) (n := n) (M := M) (o := 82 + 2 * p0) (q := 83 + 2 * p0) (k := k) (by omega) (by omega) (ly_Sc hp) (by omega) (by omega) (ly_Sb hp) h3 (by omega) (fun g => by rw [h1] at g; have := (nI_leI (by omega) (by omega)).mp g; omega)
    rw [(h4 k v hv).1] at h5
    exact h5
theorem c_kind0 {l : Launch} {b : Nat} {x : Nat → Nat} {D : va_G} {dA : Nat → ClassId} {v : Int64} {n : Nat} {M : fm_M}  : Met l y_Pr_isOfKind (Cond.code y_Pr_isOfKind b_Pr_isOfKind 3 (some .boolean) :: fm_T0) ({ frames := 1, cells := 0, slots := 0, locals := 21 }) (fm_Pc fm_lay fm_nf fm_fk fm_cl b x D dA (fm_tys dA) (fm_EX b x) false [.long v, .int (nI 0)] n M) (fm_Qc fm_lay fm_nf fm_fk fm_cl b x D dA (fun r n' M' => r = some (.int (nI 1)) ∧ n' = n ∧ M' = M)) 0 0 (fm_A b) := by
  refine fm_enter (by decide) (Nat.le_of_ble_eq_true rfl) ?_
  intro p e s m args below meth c9 hc hr hnm hex htg
  refine fm_iload_n hc d_Pr_isOfKind_0 rfl rfl ?_
  refine fm_if_eq (tgt := 21) hc d_Pr_isOfKind_1 rfl (fun _ => ?_) (fun g => absurd (by decide) g)
  refine fm_iconst (v := nI 1) hc d_Pr_isOfKind_21 rfl ?_
  refine fm_goto (tgt := 26) hc d_Pr_isOfKind_22 rfl ?_
  exact fm_zret (ty := .boolean) hc hr (by first | rfl | decide) d_Pr_isOfKind_26 (Nat.le_refl _) (Nat.le_refl _) ⟨rfl, rfl, rfl⟩
theorem c_kind10 {l : Launch} {b : Nat} {x : Nat → Nat} {D : va_G} {dA : Nat → ClassId} {v : Int64} {n : Nat} {M : fm_M} (hv : v < 1099511627776) : Met l y_Pr_isOfKind (Cond.code y_Pr_isOfKind b_Pr_isOfKind 3 (some .boolean) :: fm_T0) ({ frames := 1, cells := 0, slots := 0, locals := 21 }) (fm_Pc fm_lay fm_nf fm_fk fm_cl b x D dA (fm_tys dA) (fm_EX b x) false [.long v, .int (nI 1)] n M) (fm_Qc fm_lay fm_nf fm_fk fm_cl b x D dA (fun r n' M' => r = some (.int (nI 1)) ∧ n' = n ∧ M' = M)) 0 0 (fm_A b) := by
  refine fm_enter (by decide) (Nat.le_of_ble_eq_true rfl) ?_
  intro p e s m args below meth c9 hc hr hnm hex htg
  refine fm_iload_n hc d_Pr_isOfKind_0 rfl rfl ?_
  refine fm_if_eq (tgt := 21) hc d_Pr_isOfKind_1 rfl (fun g => absurd g (by decide)) (fun _ => ?_)
  refine fm_lload_n hc d_Pr_isOfKind_4 rfl rfl ?_
  refine fm_callSN (av := [.long v]) (rest := []) (y := y_An_isPair) (bytes := b_An_isPair) hc fm_T0_good (fm_EX_st b x) hex q_427 q_1 (nx_12 hex) q_426 pd_An_isPair (c_isPair_no hv) ⟨rfl, rfl, Nat.le_of_ble_eq_true rfl, Nat.le_of_ble_eq_true rfl⟩ ⟨Nat.le_of_ble_eq_true rfl, Nat.le_of_ble_eq_true rfl⟩ d_Pr_isOfKind_5 (Nat.le_of_ble_eq_true rfl) (fun r n2 M2 hp => ?_)
  obtain ⟨rfl, hq1, hq2⟩ := hp
  replace hq1 := hq1.symm
  replace hq2 := hq2.symm
  subst hq1 hq2
  refine fm_cnt (z' := (0, 0)) rfl (fm_st (st' := [.int (nI 0)]) rfl ?_)
  refine fm_iload_n hc d_Pr_isOfKind_8 rfl rfl ?_
  refine fm_iconst (v := nI 2) hc d_Pr_isOfKind_9 rfl ?_
  refine fm_icmp_ne (tgt := 17) hc d_Pr_isOfKind_10 rfl (fun _ => ?_) (fun g => absurd g (by decide))
  refine fm_iconst (v := nI 0) hc d_Pr_isOfKind_17 rfl ?_
  refine fm_icmp_ne (tgt := 25) hc d_Pr_isOfKind_18 rfl (fun g => absurd (by decide) g) (fun _ => ?_)
  refine fm_iconst (v := nI 1) hc d_Pr_isOfKind_21 rfl ?_
  refine fm_goto (tgt := 26) hc d_Pr_isOfKind_22 rfl ?_
  exact fm_zret (ty := .boolean) hc hr (by first | rfl | decide) d_Pr_isOfKind_26 (Nat.le_refl _) (Nat.le_refl _) ⟨rfl, rfl, rfl⟩
theorem c_kind11 {l : Launch} {b : Nat} {x : Nat → Nat} {D : va_G} {dA : Nat → ClassId} {v : Int64} {n : Nat} {M : fm_M} (hv : ¬ v < 1099511627776) : Met l y_Pr_isOfKind (Cond.code y_Pr_isOfKind b_Pr_isOfKind 3 (some .boolean) :: fm_T0) ({ frames := 1, cells := 0, slots := 0, locals := 21 }) (fm_Pc fm_lay fm_nf fm_fk fm_cl b x D dA (fm_tys dA) (fm_EX b x) false [.long v, .int (nI 1)] n M) (fm_Qc fm_lay fm_nf fm_fk fm_cl b x D dA (fun r n' M' => r = some (.int (nI 0)) ∧ n' = n ∧ M' = M)) 0 0 (fm_A b) := by
  refine fm_enter (by decide) (Nat.le_of_ble_eq_true rfl) ?_
  intro p e s m args below meth c9 hc hr hnm hex htg
  refine fm_iload_n hc d_Pr_isOfKind_0 rfl rfl ?_
  refine fm_if_eq (tgt := 21) hc d_Pr_isOfKind_1 rfl (fun g => absurd g (by decide)) (fun _ => ?_)
  refine fm_lload_n hc d_Pr_isOfKind_4 rfl rfl ?_
  refine fm_callSN (av := [.long v]) (rest := []) (y := y_An_isPair) (bytes := b_An_isPair) hc fm_T0_good (fm_EX_st b x) hex q_427 q_1 (nx_12 hex) q_426 pd_An_isPair (c_isPair_ok hv) ⟨rfl, rfl, Nat.le_of_ble_eq_true rfl, Nat.le_of_ble_eq_true rfl⟩ ⟨Nat.le_of_ble_eq_true rfl, Nat.le_of_ble_eq_true rfl⟩ d_Pr_isOfKind_5 (Nat.le_of_ble_eq_true rfl) (fun r n2 M2 hp => ?_)
  obtain ⟨rfl, hq1, hq2⟩ := hp
  replace hq1 := hq1.symm
  replace hq2 := hq2.symm
  subst hq1 hq2
  refine fm_cnt (z' := (0, 0)) rfl (fm_st (st' := [.int (nI 1)]) rfl ?_)
  refine fm_iload_n hc d_Pr_isOfKind_8 rfl rfl ?_
  refine fm_iconst (v := nI 2) hc d_Pr_isOfKind_9 rfl ?_
  refine fm_icmp_ne (tgt := 17) hc d_Pr_isOfKind_10 rfl (fun _ => ?_) (fun g => absurd g (by decide))
  refine fm_iconst (v := nI 0) hc d_Pr_isOfKind_17 rfl ?_
  refine fm_icmp_ne (tgt := 25) hc d_Pr_isOfKind_18 rfl (fun _ => ?_) (fun g => absurd g (by decide))
  refine fm_iconst (v := nI 0) hc d_Pr_isOfKind_25 rfl ?_
  exact fm_zret (ty := .boolean) hc hr (by first | rfl | decide) d_Pr_isOfKind_26 (Nat.le_refl _) (Nat.le_refl _) ⟨rfl, rfl, rfl⟩
theorem c_kind20 {l : Launch} {b : Nat} {x : Nat → Nat} {D : va_G} {dA : Nat → ClassId} {v : Int64} {n : Nat} {M : fm_M} (hv : v < 1099511627776) : Met l y_Pr_isOfKind (Cond.code y_Pr_isOfKind b_Pr_isOfKind 3 (some .boolean) :: fm_T0) ({ frames := 1, cells := 0, slots := 0, locals := 21 }) (fm_Pc fm_lay fm_nf fm_fk fm_cl b x D dA (fm_tys dA) (fm_EX b x) false [.long v, .int (nI 2)] n M) (fm_Qc fm_lay fm_nf fm_fk fm_cl b x D dA (fun r n' M' => r = some (.int (nI 0)) ∧ n' = n ∧ M' = M)) 0 0 (fm_A b) := by
  refine fm_enter (by decide) (Nat.le_of_ble_eq_true rfl) ?_
  intro p e s m args below meth c9 hc hr hnm hex htg
  refine fm_iload_n hc d_Pr_isOfKind_0 rfl rfl ?_
  refine fm_if_eq (tgt := 21) hc d_Pr_isOfKind_1 rfl (fun g => absurd g (by decide)) (fun _ => ?_)
  refine fm_lload_n hc d_Pr_isOfKind_4 rfl rfl ?_
  refine fm_callSN (av := [.long v]) (rest := []) (y := y_An_isPair) (bytes := b_An_isPair) hc fm_T0_good (fm_EX_st b x) hex q_427 q_1 (nx_12 hex) q_426 pd_An_isPair (c_isPair_no hv) ⟨rfl, rfl, Nat.le_of_ble_eq_true rfl, Nat.le_of_ble_eq_true rfl⟩ ⟨Nat.le_of_ble_eq_true rfl, Nat.le_of_ble_eq_true rfl⟩ d_Pr_isOfKind_5 (Nat.le_of_ble_eq_true rfl) (fun r n2 M2 hp => ?_)
  obtain ⟨rfl, hq1, hq2⟩ := hp
  replace hq1 := hq1.symm
  replace hq2 := hq2.symm
  subst hq1 hq2
  refine fm_cnt (z' := (0, 0)) rfl (fm_st (st' := [.int (nI 0)]) rfl ?_)
  refine fm_iload_n hc d_Pr_isOfKind_8 rfl rfl ?_
  refine fm_iconst (v := nI 2) hc d_Pr_isOfKind_9 rfl ?_
  refine fm_icmp_ne (tgt := 17) hc d_Pr_isOfKind_10 rfl (fun g => absurd (by decide) g) (fun _ => ?_)
  refine fm_iconst (v := nI 1) hc d_Pr_isOfKind_13 rfl ?_
  refine fm_goto (tgt := 18) hc d_Pr_isOfKind_14 rfl ?_
  refine fm_icmp_ne (tgt := 25) hc d_Pr_isOfKind_18 rfl (fun _ => ?_) (fun g => absurd g (by decide))
  refine fm_iconst (v := nI 0) hc d_Pr_isOfKind_25 rfl ?_
  exact fm_zret (ty := .boolean) hc hr (by first | rfl | decide) d_Pr_isOfKind_26 (Nat.le_refl _) (Nat.le_refl _) ⟨rfl, rfl, rfl⟩
theorem c_kind21 {l : Launch} {b : Nat} {x : Nat → Nat} {D : va_G} {dA : Nat → ClassId} {v : Int64} {n : Nat} {M : fm_M} (hv : ¬ v < 1099511627776) : Met l y_Pr_isOfKind (Cond.code y_Pr_isOfKind b_Pr_isOfKind 3 (some .boolean) :: fm_T0) ({ frames := 1, cells := 0, slots := 0, locals := 21 }) (fm_Pc fm_lay fm_nf fm_fk fm_cl b x D dA (fm_tys dA) (fm_EX b x) false [.long v, .int (nI 2)] n M) (fm_Qc fm_lay fm_nf fm_fk fm_cl b x D dA (fun r n' M' => r = some (.int (nI 1)) ∧ n' = n ∧ M' = M)) 0 0 (fm_A b) := by
  refine fm_enter (by decide) (Nat.le_of_ble_eq_true rfl) ?_
  intro p e s m args below meth c9 hc hr hnm hex htg
  refine fm_iload_n hc d_Pr_isOfKind_0 rfl rfl ?_
  refine fm_if_eq (tgt := 21) hc d_Pr_isOfKind_1 rfl (fun g => absurd g (by decide)) (fun _ => ?_)
  refine fm_lload_n hc d_Pr_isOfKind_4 rfl rfl ?_
  refine fm_callSN (av := [.long v]) (rest := []) (y := y_An_isPair) (bytes := b_An_isPair) hc fm_T0_good (fm_EX_st b x) hex q_427 q_1 (nx_12 hex) q_426 pd_An_isPair (c_isPair_ok hv) ⟨rfl, rfl, Nat.le_of_ble_eq_true rfl, Nat.le_of_ble_eq_true rfl⟩ ⟨Nat.le_of_ble_eq_true rfl, Nat.le_of_ble_eq_true rfl⟩ d_Pr_isOfKind_5 (Nat.le_of_ble_eq_true rfl) (fun r n2 M2 hp => ?_)
  obtain ⟨rfl, hq1, hq2⟩ := hp
  replace hq1 := hq1.symm
  replace hq2 := hq2.symm
  subst hq1 hq2
  refine fm_cnt (z' := (0, 0)) rfl (fm_st (st' := [.int (nI 1)]) rfl ?_)
  refine fm_iload_n hc d_Pr_isOfKind_8 rfl rfl ?_
  refine fm_iconst (v := nI 2) hc d_Pr_isOfKind_9 rfl ?_
  refine fm_icmp_ne (tgt := 17) hc d_Pr_isOfKind_10 rfl (fun g => absurd (by decide) g) (fun _ => ?_)
  refine fm_iconst (v := nI 1) hc d_Pr_isOfKind_13 rfl ?_
  refine fm_goto (tgt := 18) hc d_Pr_isOfKind_14 rfl ?_
  refine fm_icmp_ne (tgt := 25) hc d_Pr_isOfKind_18 rfl (fun g => absurd (by decide) g) (fun _ => ?_)
  refine fm_iconst (v := nI 1) hc d_Pr_isOfKind_21 rfl ?_
  refine fm_goto (tgt := 26) hc d_Pr_isOfKind_22 rfl ?_
  exact fm_zret (ty := .boolean) hc hr (by first | rfl | decide) d_Pr_isOfKind_26 (Nat.le_refl _) (Nat.le_refl _) ⟨rfl, rfl, rfl⟩
/-- a value whose number, if it is a pair, is a small one -/
def e_ok (v : bf_V) : Prop := bf_in (fun k => k < 16) v
theorem c_kind_ok {l : Launch} {b : Nat} {x : Nat → Nat} {D : va_G} {dA : Nat → ClassId} {a : bf_V} {kd n : Nat} {M : fm_M} (ha : e_ok a) (hkd : kd ≤ 2) (h : ag_kind a kd = true) : Met l y_Pr_isOfKind (Cond.code y_Pr_isOfKind b_Pr_isOfKind 3 (some .boolean) :: fm_T0) ({ frames := 1, cells := 0, slots := 0, locals := 21 }) (fm_Pc fm_lay fm_nf fm_fk fm_cl b x D dA (fm_tys dA) (fm_EX b x) false [.long (e64 a), .int (nI kd)] n M) (fm_Qc fm_lay fm_nf fm_fk fm_cl b x D dA (fun r n' M' => r = some (.int (nI 1)) ∧ n' = n ∧ M' = M)) 0 0 (fm_A b) := by
  cases a with
  | inl y =>
    rcases (show kd = 0 ∨ kd = 1 ∨ kd = 2 by omega) with rfl | rfl | rfl
    · exact c_kind0
    · exact c_kind10 (vx_int y)
    · exact absurd h (by simp [ag_kind])
  | inr k =>
    rcases (show kd = 0 ∨ kd = 1 ∨ kd = 2 by omega) with rfl | rfl | rfl
    · exact c_kind0
    · exact absurd h (by simp [ag_kind])
    · exact c_kind21 (vx_pair k ha)
theorem c_kind_no {l : Launch} {b : Nat} {x : Nat → Nat} {D : va_G} {dA : Nat → ClassId} {a : bf_V} {kd n : Nat} {M : fm_M} (ha : e_ok a) (hkd : kd ≤ 2) (h : ag_kind a kd = false) : Met l y_Pr_isOfKind (Cond.code y_Pr_isOfKind b_Pr_isOfKind 3 (some .boolean) :: fm_T0) ({ frames := 1, cells := 0, slots := 0, locals := 21 }) (fm_Pc fm_lay fm_nf fm_fk fm_cl b x D dA (fm_tys dA) (fm_EX b x) false [.long (e64 a), .int (nI kd)] n M) (fm_Qc fm_lay fm_nf fm_fk fm_cl b x D dA (fun r n' M' => r = some (.int (nI 0)) ∧ n' = n ∧ M' = M)) 0 0 (fm_A b) := by
  cases a with
  | inl y =>
    rcases (show kd = 0 ∨ kd = 1 ∨ kd = 2 by omega) with rfl | rfl | rfl
    · exact absurd h (by simp [ag_kind])
    · exact absurd h (by simp [ag_kind])
    · exact c_kind20 (vx_int y)
  | inr k =>
    rcases (show kd = 0 ∨ kd = 1 ∨ kd = 2 by omega) with rfl | rfl | rfl
    · exact absurd h (by simp [ag_kind])
    · exact c_kind11 (vx_pair k ha)
    · exact absurd h (by simp [ag_kind])
theorem c_at_some {l : Launch} {b : Nat} {x : Nat → Nat} {D : va_G} {dA : Nat → ClassId} {p0 k v : Nat} {sc : List Nat} {n : Nat} {M : fm_M} (hn : 586 ≤ n) (hp : p0 < 4) (hs : hs_S M p0 sc) (hk : k < 2 ^ 30) (hv : sc[k]? = some v) : Met l y_Sc_at (Cond.code y_Sc_at b_Sc_at 2 (some .int) :: fm_T0) ({ frames := 0, cells := 0, slots := 0, locals := 0 }) (fm_Pc fm_lay fm_nf fm_fk fm_cl b x D dA (fm_tys dA) (fm_EX b x) false [.ref (82 + 2 * p0), .int (nI k)] n M) (fm_Qc fm_lay fm_nf fm_fk fm_cl b x D dA (fun r n' M' => r = some (.int (nI v)) ∧ n' = n ∧ M' = M)) 0 0 (fm_A b) := by
  have h := c_at (l := l) (b := b) (x := x) (D := D) (dA := dA) hn hp hs hk
  rw [hv] at h
  exact h
theorem c_at_none {l : Launch} {b : Nat} {x : Nat → Nat} {D : va_G} {dA : Nat → ClassId} {p0 k : Nat} {sc : List Nat} {n : Nat} {M : fm_M} (hn : 586 ≤ n) (hp : p0 < 4) (hs : hs_S M p0 sc) (hk : k < 2 ^ 30) (hv : sc[k]? = none) : Met l y_Sc_at (Cond.code y_Sc_at b_Sc_at 2 (some .int) :: fm_T0) ({ frames := 0, cells := 0, slots := 0, locals := 0 }) (fm_Pc fm_lay fm_nf fm_fk fm_cl b x D dA (fm_tys dA) (fm_EX b x) false [.ref (82 + 2 * p0), .int (nI k)] n M) (fm_Qc fm_lay fm_nf fm_fk fm_cl b x D dA (fun r n' M' => r = some (.int (-1)) ∧ n' = n ∧ M' = M)) 0 0 (fm_A b) := by
  have h := c_at (l := l) (b := b) (x := x) (D := D) (dA := dA) hn hp hs hk
  rw [hv] at h
  exact h
theorem hs_p1 {M : fm_M} {p0 o k : Nat} {v : Int32} {sc : List Nat} (h1 : 82 + 2 * p0 ≠ o) (h2 : 83 + 2 * p0 ≠ o) (h : hs_S M p0 sc) : hs_S (fm_put1 M o k v) p0 sc := ⟨(p1_other h1).trans h.1, h.2.1, h.2.2.1, fun j w hw => ⟨(p1_other h2).trans (h.2.2.2 j w hw).1, (h.2.2.2 j w hw).2⟩⟩
theorem sz_two : ∀ c, c < 20 → ag_sz c = 1 ∨ ag_sz c = 2 := by decide
theorem c_read_1 {l : Launch} {b : Nat} {x : Nat → Nat} {D : va_G} {dA : Nat → ClassId} {tr p0 pl : Nat} {sc : List Nat} {n : Nat} {M : fm_M} (hn : 586 ≤ n) (t8 : 70 ≤ tr) (tn : tr < n) (tl : (fm_lay tr).1 = 5) (hp : p0 < 4) (hs : hs_S M p0 sc) (hpl : M.1 tr 2 = nI pl) (hpl2 : pl < 1000) (h1 : sc[pl]? = none) : Met l y_Pr_read (Cond.code y_Pr_read b_Pr_read 3 (some .boolean) :: fm_T0) ({ frames := 1, cells := 0, slots := 0, locals := 25 }) (fm_Pc fm_lay fm_nf fm_fk fm_cl b x D dA (fm_tys dA) (fm_EX b x) false [.ref 60, .ref tr, .ref (82 + 2 * p0)] n M) (fm_Qc fm_lay fm_nf fm_fk fm_cl b x D dA (fun r n' M' => r = some (.int (nI 0)) ∧ n' = n ∧ M' = fm_put1 M 60 1 (-1))) 0 0 (fm_A b) := by
  refine fm_enter (by decide) (Nat.le_of_ble_eq_true rfl) ?_
  intro p e s m args below meth c9 hc hr hnm hex htg
  refine fm_aload_n hc d_Pr_read_0 rfl rfl ?_
  refine fm_aload_n hc d_Pr_read_1 rfl rfl ?_
  refine fm_aload_n hc d_Pr_read_2 rfl rfl ?_
  refine fm_getI (k := 2) hc K_Tr d_Pr_read_3 q_181 rfl (by omega) tn tl (by decide) (by decide) rfl ?_
  refine fm_top (congrArg Value.int hpl) ?_
  refine fm_callV (av := [.int (nI pl)]) (rest := [.ref 60]) (ob := 82 + 2 * p0) (ci := 1) (r0 := ("AgentNet$Script", F_Sc, 2)) (y := y_Sc_at) (bytes := b_Sc_at) hc fm_T0_good (fm_EX_st b x) hex q_602 q_9 q_599 q_600 q_601 pd_Sc_at (by omega) (by omega) (ly_Sc hp) (by decide) rfl rfl (c_at_none hn hp hs (by omega) h1) ⟨rfl, rfl, Nat.le_of_ble_eq_true rfl, Nat.le_of_ble_eq_true rfl⟩ ⟨Nat.le_of_ble_eq_true rfl, Nat.le_of_ble_eq_true rfl⟩ d_Pr_read_6 (Nat.le_of_ble_eq_true rfl) (fun r n2 M2 hp => ?_)
  obtain ⟨rfl, hq1, hq2⟩ := hp
  replace hq1 := hq1.symm
  replace hq2 := hq2.symm
  subst hq1 hq2
  refine fm_cnt (z' := (0, 0)) rfl (fm_st (st' := [.int ((-1)), .ref 60]) rfl ?_)
  refine fm_putI (k := 1) (v := (-1)) hc K_Pr d_Pr_read_9 q_124 rfl (by decide) (by omega) (by decide) (by decide) (by decide) rfl rfl rfl rfl ?_
  refine fm_aload_n hc d_Pr_read_12 rfl rfl ?_
  refine fm_getI (k := 1) hc K_Pr d_Pr_read_13 q_124 rfl (by decide) (by omega) (by decide) (by decide) (by decide) rfl ?_
  refine fm_top (congrArg Value.int (p1_same _ _ _ _)) ?_
  refine fm_if_lt (tgt := 28) hc d_Pr_read_16 rfl (fun _ => ?_) (fun g => absurd (by decide) g)
  refine fm_iconst (v := nI 0) hc d_Pr_read_28 rfl ?_
  exact fm_zret (ty := .boolean) hc hr (by first | rfl | decide) d_Pr_read_29 (Nat.le_refl _) (Nat.le_refl _) ⟨rfl, rfl, rfl⟩
theorem c_read_2 {l : Launch} {b : Nat} {x : Nat → Nat} {D : va_G} {dA : Nat → ClassId} {tr p0 pl c : Nat} {sc : List Nat} {n : Nat} {M : fm_M} (hn : 586 ≤ n) (t8 : 70 ≤ tr) (tn : tr < n) (tl : (fm_lay tr).1 = 5) (hp : p0 < 4) (hs : hs_S M p0 sc) (hpl : M.1 tr 2 = nI pl) (hpl2 : pl < 1000) (h1 : sc[pl]? = some c) (hc1 : 19 < c) (hc2 : c < 256) : Met l y_Pr_read (Cond.code y_Pr_read b_Pr_read 3 (some .boolean) :: fm_T0) ({ frames := 1, cells := 0, slots := 0, locals := 25 }) (fm_Pc fm_lay fm_nf fm_fk fm_cl b x D dA (fm_tys dA) (fm_EX b x) false [.ref 60, .ref tr, .ref (82 + 2 * p0)] n M) (fm_Qc fm_lay fm_nf fm_fk fm_cl b x D dA (fun r n' M' => r = some (.int (nI 0)) ∧ n' = n ∧ M' = fm_put1 M 60 1 (nI c))) 0 0 (fm_A b) := by
  refine fm_enter (by decide) (Nat.le_of_ble_eq_true rfl) ?_
  intro p e s m args below meth c9 hc hr hnm hex htg
  refine fm_aload_n hc d_Pr_read_0 rfl rfl ?_
  refine fm_aload_n hc d_Pr_read_1 rfl rfl ?_
  refine fm_aload_n hc d_Pr_read_2 rfl rfl ?_
  refine fm_getI (k := 2) hc K_Tr d_Pr_read_3 q_181 rfl (by omega) tn tl (by decide) (by decide) rfl ?_
  refine fm_top (congrArg Value.int hpl) ?_
  refine fm_callV (av := [.int (nI pl)]) (rest := [.ref 60]) (ob := 82 + 2 * p0) (ci := 1) (r0 := ("AgentNet$Script", F_Sc, 2)) (y := y_Sc_at) (bytes := b_Sc_at) hc fm_T0_good (fm_EX_st b x) hex q_602 q_9 q_599 q_600 q_601 pd_Sc_at (by omega) (by omega) (ly_Sc hp) (by decide) rfl rfl (c_at_some hn hp hs (by omega) h1) ⟨rfl, rfl, Nat.le_of_ble_eq_true rfl, Nat.le_of_ble_eq_true rfl⟩ ⟨Nat.le_of_ble_eq_true rfl, Nat.le_of_ble_eq_true rfl⟩ d_Pr_read_6 (Nat.le_of_ble_eq_true rfl) (fun r n2 M2 hp => ?_)
  obtain ⟨rfl, hq1, hq2⟩ := hp
  replace hq1 := hq1.symm
  replace hq2 := hq2.symm
  subst hq1 hq2
  refine fm_cnt (z' := (0, 0)) rfl (fm_st (st' := [.int (nI c), .ref 60]) rfl ?_)
  refine fm_putI (k := 1) (v := nI c) hc K_Pr d_Pr_read_9 q_124 rfl (by decide) (by omega) (by decide) (by decide) (by decide) rfl rfl rfl rfl ?_
  refine fm_aload_n hc d_Pr_read_12 rfl rfl ?_
  refine fm_getI (k := 1) hc K_Pr d_Pr_read_13 q_124 rfl (by decide) (by omega) (by decide) (by decide) (by decide) rfl ?_
  refine fm_top (congrArg Value.int (p1_same _ _ _ _)) ?_
  refine fm_if_lt (tgt := 28) hc d_Pr_read_16 rfl (fun g => absurd g (nI_pos (by omega))) (fun _ => ?_)
  refine fm_aload_n hc d_Pr_read_19 rfl rfl ?_
  refine fm_getI (k := 1) hc K_Pr d_Pr_read_20 q_124 rfl (by decide) (by omega) (by decide) (by decide) (by decide) rfl ?_
  refine fm_top (congrArg Value.int (p1_same _ _ _ _)) ?_
  refine fm_bipush (v := nI 19) hc d_Pr_read_23 rfl ?_
  refine fm_icmp_le (tgt := 30) hc d_Pr_read_25 rfl (fun g => absurd g (fun g => by have := (nI_leI (by omega) (by omega)).mp g; omega)) (fun _ => ?_)
  refine fm_iconst (v := nI 0) hc d_Pr_read_28 rfl ?_
  exact fm_zret (ty := .boolean) hc hr (by first | rfl | decide) d_Pr_read_29 (Nat.le_refl _) (Nat.le_refl _) ⟨rfl, rfl, rfl⟩
theorem c_read_3 {l : Launch} {b : Nat} {x : Nat → Nat} {D : va_G} {dA : Nat → ClassId} {tr p0 pl c : Nat} {sc : List Nat} {n : Nat} {M : fm_M} (hn : 586 ≤ n) (t8 : 70 ≤ tr) (tn : tr < n) (tl : (fm_lay tr).1 = 5) (hp : p0 < 4) (hs : hs_S M p0 sc) (hpl : M.1 tr 2 = nI pl) (hpl2 : pl < 1000) (h1 : sc[pl]? = some c) (hc1 : c ≤ 19) (hz : ag_sz c = 2) (h2 : sc[pl + 1]? = none) : Met l y_Pr_read (Cond.code y_Pr_read b_Pr_read 3 (some .boolean) :: fm_T0) ({ frames := 1, cells := 0, slots := 0, locals := 25 }) (fm_Pc fm_lay fm_nf fm_fk fm_cl b x D dA (fm_tys dA) (fm_EX b x) false [.ref 60, .ref tr, .ref (82 + 2 * p0)] n M) (fm_Qc fm_lay fm_nf fm_fk fm_cl b x D dA (fun r n' M' => r = some (.int (nI 0)) ∧ n' = n ∧ M' = fm_put1 (fm_put1 M 60 1 (nI c)) 60 2 (-1))) 0 0 (fm_A b) := by
  refine fm_enter (by decide) (Nat.le_of_ble_eq_true rfl) ?_
  intro p e s m args below meth c9 hc hr hnm hex htg
  refine fm_aload_n hc d_Pr_read_0 rfl rfl ?_
  refine fm_aload_n hc d_Pr_read_1 rfl rfl ?_
  refine fm_aload_n hc d_Pr_read_2 rfl rfl ?_
  refine fm_getI (k := 2) hc K_Tr d_Pr_read_3 q_181 rfl (by omega) tn tl (by decide) (by decide) rfl ?_
  refine fm_top (congrArg Value.int hpl) ?_
  refine fm_callV (av := [.int (nI pl)]) (rest := [.ref 60]) (ob := 82 + 2 * p0) (ci := 1) (r0 := ("AgentNet$Script", F_Sc, 2)) (y := y_Sc_at) (bytes := b_Sc_at) hc fm_T0_good (fm_EX_st b x) hex q_602 q_9 q_599 q_600 q_601 pd_Sc_at (by omega) (by omega) (ly_Sc hp) (by decide) rfl rfl (c_at_some hn hp hs (by omega) h1) ⟨rfl, rfl, Nat.le_of_ble_eq_true rfl, Nat.le_of_ble_eq_true rfl⟩ ⟨Nat.le_of_ble_eq_true rfl, Nat.le_of_ble_eq_true rfl⟩ d_Pr_read_6 (Nat.le_of_ble_eq_true rfl) (fun r n2 M2 hp => ?_)
  obtain ⟨rfl, hq1, hq2⟩ := hp
  replace hq1 := hq1.symm
  replace hq2 := hq2.symm
  subst hq1 hq2
  refine fm_cnt (z' := (0, 0)) rfl (fm_st (st' := [.int (nI c), .ref 60]) rfl ?_)
  refine fm_putI (k := 1) (v := nI c) hc K_Pr d_Pr_read_9 q_124 rfl (by decide) (by omega) (by decide) (by decide) (by decide) rfl rfl rfl rfl ?_
  refine fm_aload_n hc d_Pr_read_12 rfl rfl ?_
  refine fm_getI (k := 1) hc K_Pr d_Pr_read_13 q_124 rfl (by decide) (by omega) (by decide) (by decide) (by decide) rfl ?_
  refine fm_top (congrArg Value.int (p1_same _ _ _ _)) ?_
  refine fm_if_lt (tgt := 28) hc d_Pr_read_16 rfl (fun g => absurd g (nI_pos (by omega))) (fun _ => ?_)
  refine fm_aload_n hc d_Pr_read_19 rfl rfl ?_
  refine fm_getI (k := 1) hc K_Pr d_Pr_read_20 q_124 rfl (by decide) (by omega) (by decide) (by decide) (by decide) rfl ?_
  refine fm_top (congrArg Value.int (p1_same _ _ _ _)) ?_
  refine fm_bipush (v := nI 19) hc d_Pr_read_23 rfl ?_
  refine fm_icmp_le (tgt := 30) hc d_Pr_read_25 rfl (fun _ => ?_) (fun g => absurd (nI_le (by omega) (by omega)) g)
  refine fm_aload_n hc d_Pr_read_30 rfl rfl ?_
  refine fm_gets (o := 1) hc d_Pr_read_31 q_603 (by decide) (tb_Z0 hex) ?_
  refine fm_aload_n hc d_Pr_read_34 rfl rfl ?_
  refine fm_getI (k := 1) hc K_Pr d_Pr_read_35 q_124 rfl (by decide) (by omega) (by decide) (by decide) (by decide) rfl ?_
  refine fm_top (congrArg Value.int (p1_same _ _ _ _)) ?_
  refine fm_tald (o := 1) (j := c) (len := 20) hc d_Pr_read_38 (by decide) (tb_T0 hex) (by omega) (by decide) ?_
  refine fm_top (congrArg Value.int (tab_sz c (by omega))) ?_
  refine fm_iconst (v := nI 2) hc d_Pr_read_39 rfl ?_
  refine fm_icmp_ne (tgt := 56) hc d_Pr_read_40 rfl (fun g => absurd (congrArg nI hz) g) (fun _ => ?_)
  refine fm_aload_n hc d_Pr_read_43 rfl rfl ?_
  refine fm_aload_n hc d_Pr_read_44 rfl rfl ?_
  refine fm_getI (k := 2) hc K_Tr d_Pr_read_45 q_181 rfl (by omega) tn tl (by decide) (by decide) rfl ?_
  refine fm_top (congrArg Value.int ((p1_other (by omega)).trans hpl)) ?_
  refine fm_iconst (v := nI 1) hc d_Pr_read_48 rfl ?_
  refine fm_iadd hc d_Pr_read_49 ?_
  refine fm_top (congrArg Value.int (nI_add pl 1)) ?_
  refine fm_callV (av := [.int (nI (pl + 1))]) (rest := [.ref 60]) (ob := 82 + 2 * p0) (ci := 1) (r0 := ("AgentNet$Script", F_Sc, 2)) (y := y_Sc_at) (bytes := b_Sc_at) hc fm_T0_good (fm_EX_st b x) hex q_602 q_9 q_599 q_600 q_601 pd_Sc_at (by omega) (by omega) (ly_Sc hp) (by decide) rfl rfl (c_at_none (M := fm_put1 M 60 1 (nI c)) hn hp (hs_p1 (by omega) (by omega) hs) (by omega) h2) ⟨rfl, rfl, Nat.le_of_ble_eq_true rfl, Nat.le_of_ble_eq_true rfl⟩ ⟨Nat.le_of_ble_eq_true rfl, Nat.le_of_ble_eq_true rfl⟩ d_Pr_read_50 (Nat.le_of_ble_eq_true rfl) (fun r n2 M2 hp => ?_)
  obtain ⟨rfl, hq1, hq2⟩ := hp
  replace hq1 := hq1.symm
  replace hq2 := hq2.symm
  subst hq1 hq2
  refine fm_cnt (z' := (0, 0)) rfl (fm_st (st' := [.int ((-1)), .ref 60]) rfl ?_)
  refine fm_goto (tgt := 57) hc d_Pr_read_53 rfl ?_
  refine fm_putI (k := 2) (v := (-1)) hc K_Pr d_Pr_read_57 q_125 rfl (by decide) (by omega) (by decide) (by decide) (by decide) rfl rfl rfl rfl ?_
  refine fm_aload_n hc d_Pr_read_60 rfl rfl ?_
  refine fm_getI (k := 2) hc K_Pr d_Pr_read_61 q_125 rfl (by decide) (by omega) (by decide) (by decide) (by decide) rfl ?_
  refine fm_top (congrArg Value.int (p1_same _ _ _ _)) ?_
  refine fm_if_lt (tgt := 71) hc d_Pr_read_64 rfl (fun _ => ?_) (fun g => absurd (by decide) g)
  refine fm_iconst (v := nI 0) hc d_Pr_read_71 rfl ?_
  exact fm_zret (ty := .boolean) hc hr (by first | rfl | decide) d_Pr_read_72 (Nat.le_refl _) (Nat.le_refl _) ⟨rfl, rfl, rfl⟩
theorem c_read_4 {l : Launch} {b : Nat} {x : Nat → Nat} {D : va_G} {dA : Nat → ClassId} {tr p0 pl c y : Nat} {sc : List Nat} {n : Nat} {M : fm_M} (hn : 586 ≤ n) (t8 : 70 ≤ tr) (tn : tr < n) (tl : (fm_lay tr).1 = 5) (hp : p0 < 4) (hs : hs_S M p0 sc) (hpl : M.1 tr 2 = nI pl) (hpl2 : pl < 1000) (h1 : sc[pl]? = some c) (hc1 : c ≤ 19) (hz : ag_sz c = 2) (h2 : sc[pl + 1]? = some y) (hy : y < 256) : Met l y_Pr_read (Cond.code y_Pr_read b_Pr_read 3 (some .boolean) :: fm_T0) ({ frames := 1, cells := 0, slots := 0, locals := 25 }) (fm_Pc fm_lay fm_nf fm_fk fm_cl b x D dA (fm_tys dA) (fm_EX b x) false [.ref 60, .ref tr, .ref (82 + 2 * p0)] n M) (fm_Qc fm_lay fm_nf fm_fk fm_cl b x D dA (fun r n' M' => r = some (.int (nI 1)) ∧ n' = n ∧ M' = fm_put1 (fm_put1 M 60 1 (nI c)) 60 2 (nI y))) 0 0 (fm_A b) := by
  refine fm_enter (by decide) (Nat.le_of_ble_eq_true rfl) ?_
  intro p e s m args below meth c9 hc hr hnm hex htg
  refine fm_aload_n hc d_Pr_read_0 rfl rfl ?_
  refine fm_aload_n hc d_Pr_read_1 rfl rfl ?_
  refine fm_aload_n hc d_Pr_read_2 rfl rfl ?_
  refine fm_getI (k := 2) hc K_Tr d_Pr_read_3 q_181 rfl (by omega) tn tl (by decide) (by decide) rfl ?_
  refine fm_top (congrArg Value.int hpl) ?_
  refine fm_callV (av := [.int (nI pl)]) (rest := [.ref 60]) (ob := 82 + 2 * p0) (ci := 1) (r0 := ("AgentNet$Script", F_Sc, 2)) (y := y_Sc_at) (bytes := b_Sc_at) hc fm_T0_good (fm_EX_st b x) hex q_602 q_9 q_599 q_600 q_601 pd_Sc_at (by omega) (by omega) (ly_Sc hp) (by decide) rfl rfl (c_at_some hn hp hs (by omega) h1) ⟨rfl, rfl, Nat.le_of_ble_eq_true rfl, Nat.le_of_ble_eq_true rfl⟩ ⟨Nat.le_of_ble_eq_true rfl, Nat.le_of_ble_eq_true rfl⟩ d_Pr_read_6 (Nat.le_of_ble_eq_true rfl) (fun r n2 M2 hp => ?_)
  obtain ⟨rfl, hq1, hq2⟩ := hp
  replace hq1 := hq1.symm
  replace hq2 := hq2.symm
  subst hq1 hq2
  refine fm_cnt (z' := (0, 0)) rfl (fm_st (st' := [.int (nI c), .ref 60]) rfl ?_)
  refine fm_putI (k := 1) (v := nI c) hc K_Pr d_Pr_read_9 q_124 rfl (by decide) (by omega) (by decide) (by decide) (by decide) rfl rfl rfl rfl ?_
  refine fm_aload_n hc d_Pr_read_12 rfl rfl ?_
  refine fm_getI (k := 1) hc K_Pr d_Pr_read_13 q_124 rfl (by decide) (by omega) (by decide) (by decide) (by decide) rfl ?_
  refine fm_top (congrArg Value.int (p1_same _ _ _ _)) ?_
  refine fm_if_lt (tgt := 28) hc d_Pr_read_16 rfl (fun g => absurd g (nI_pos (by omega))) (fun _ => ?_)
  refine fm_aload_n hc d_Pr_read_19 rfl rfl ?_
  refine fm_getI (k := 1) hc K_Pr d_Pr_read_20 q_124 rfl (by decide) (by omega) (by decide) (by decide) (by decide) rfl ?_
  refine fm_top (congrArg Value.int (p1_same _ _ _ _)) ?_
  refine fm_bipush (v := nI 19) hc d_Pr_read_23 rfl ?_
  refine fm_icmp_le (tgt := 30) hc d_Pr_read_25 rfl (fun _ => ?_) (fun g => absurd (nI_le (by omega) (by omega)) g)
  refine fm_aload_n hc d_Pr_read_30 rfl rfl ?_
  refine fm_gets (o := 1) hc d_Pr_read_31 q_603 (by decide) (tb_Z0 hex) ?_
  refine fm_aload_n hc d_Pr_read_34 rfl rfl ?_
  refine fm_getI (k := 1) hc K_Pr d_Pr_read_35 q_124 rfl (by decide) (by omega) (by decide) (by decide) (by decide) rfl ?_
  refine fm_top (congrArg Value.int (p1_same _ _ _ _)) ?_
  refine fm_tald (o := 1) (j := c) (len := 20) hc d_Pr_read_38 (by decide) (tb_T0 hex) (by omega) (by decide) ?_
  refine fm_top (congrArg Value.int (tab_sz c (by omega))) ?_
  refine fm_iconst (v := nI 2) hc d_Pr_read_39 rfl ?_
  refine fm_icmp_ne (tgt := 56) hc d_Pr_read_40 rfl (fun g => absurd (congrArg nI hz) g) (fun _ => ?_)
  refine fm_aload_n hc d_Pr_read_43 rfl rfl ?_
  refine fm_aload_n hc d_Pr_read_44 rfl rfl ?_
  refine fm_getI (k := 2) hc K_Tr d_Pr_read_45 q_181 rfl (by omega) tn tl (by decide) (by decide) rfl ?_
  refine fm_top (congrArg Value.int ((p1_other (by omega)).trans hpl)) ?_
  refine fm_iconst (v := nI 1) hc d_Pr_read_48 rfl ?_
  refine fm_iadd hc d_Pr_read_49 ?_
  refine fm_top (congrArg Value.int (nI_add pl 1)) ?_
  refine fm_callV (av := [.int (nI (pl + 1))]) (rest := [.ref 60]) (ob := 82 + 2 * p0) (ci := 1) (r0 := ("AgentNet$Script", F_Sc, 2)) (y := y_Sc_at) (bytes := b_Sc_at) hc fm_T0_good (fm_EX_st b x) hex q_602 q_9 q_599 q_600 q_601 pd_Sc_at (by omega) (by omega) (ly_Sc hp) (by decide) rfl rfl (c_at_some (M := fm_put1 M 60 1 (nI c)) hn hp (hs_p1 (by omega) (by omega) hs) (by omega) h2) ⟨rfl, rfl, Nat.le_of_ble_eq_true rfl, Nat.le_of_ble_eq_true rfl⟩ ⟨Nat.le_of_ble_eq_true rfl, Nat.le_of_ble_eq_true rfl⟩ d_Pr_read_50 (Nat.le_of_ble_eq_true rfl) (fun r n2 M2 hp => ?_)
  obtain ⟨rfl, hq1, hq2⟩ := hp
  replace hq1 := hq1.symm
  replace hq2 := hq2.symm
  subst hq1 hq2
  refine fm_cnt (z' := (0, 0)) rfl (fm_st (st' := [.int (nI y), .ref 60]) rfl ?_)
  refine fm_goto (tgt := 57) hc d_Pr_read_53 rfl ?_
  refine fm_putI (k := 2) (v := nI y) hc K_Pr d_Pr_read_57 q_125 rfl (by decide) (by omega) (by decide) (by decide) (by decide) rfl rfl rfl rfl ?_
  refine fm_aload_n hc d_Pr_read_60 rfl rfl ?_
  refine fm_getI (k := 2) hc K_Pr d_Pr_read_61 q_125 rfl (by decide) (by omega) (by decide) (by decide) (by decide) rfl ?_
  refine fm_top (congrArg Value.int (p1_same _ _ _ _)) ?_
  refine fm_if_lt (tgt := 71) hc d_Pr_read_64 rfl (fun g => absurd g (nI_pos (by omega))) (fun _ => ?_)
  refine fm_iconst (v := nI 1) hc d_Pr_read_67 rfl ?_
  refine fm_goto (tgt := 72) hc d_Pr_read_68 rfl ?_
  exact fm_zret (ty := .boolean) hc hr (by first | rfl | decide) d_Pr_read_72 (Nat.le_refl _) (Nat.le_refl _) ⟨rfl, rfl, rfl⟩
theorem c_read_5 {l : Launch} {b : Nat} {x : Nat → Nat} {D : va_G} {dA : Nat → ClassId} {tr p0 pl c : Nat} {sc : List Nat} {n : Nat} {M : fm_M} (hn : 586 ≤ n) (t8 : 70 ≤ tr) (tn : tr < n) (tl : (fm_lay tr).1 = 5) (hp : p0 < 4) (hs : hs_S M p0 sc) (hpl : M.1 tr 2 = nI pl) (hpl2 : pl < 1000) (h1 : sc[pl]? = some c) (hc1 : c ≤ 19) (hz : ag_sz c = 1) : Met l y_Pr_read (Cond.code y_Pr_read b_Pr_read 3 (some .boolean) :: fm_T0) ({ frames := 1, cells := 0, slots := 0, locals := 25 }) (fm_Pc fm_lay fm_nf fm_fk fm_cl b x D dA (fm_tys dA) (fm_EX b x) false [.ref 60, .ref tr, .ref (82 + 2 * p0)] n M) (fm_Qc fm_lay fm_nf fm_fk fm_cl b x D dA (fun r n' M' => r = some (.int (nI 1)) ∧ n' = n ∧ M' = fm_put1 (fm_put1 M 60 1 (nI c)) 60 2 (nI 0))) 0 0 (fm_A b) := by
  refine fm_enter (by decide) (Nat.le_of_ble_eq_true rfl) ?_
  intro p e s m args below meth c9 hc hr hnm hex htg
  refine fm_aload_n hc d_Pr_read_0 rfl rfl ?_
  refine fm_aload_n hc d_Pr_read_1 rfl rfl ?_
  refine fm_aload_n hc d_Pr_read_2 rfl rfl ?_
  refine fm_getI (k := 2) hc K_Tr d_Pr_read_3 q_181 rfl (by omega) tn tl (by decide) (by decide) rfl ?_
  refine fm_top (congrArg Value.int hpl) ?_
  refine fm_callV (av := [.int (nI pl)]) (rest := [.ref 60]) (ob := 82 + 2 * p0) (ci := 1) (r0 := ("AgentNet$Script", F_Sc, 2)) (y := y_Sc_at) (bytes := b_Sc_at) hc fm_T0_good (fm_EX_st b x) hex q_602 q_9 q_599 q_600 q_601 pd_Sc_at (by omega) (by omega) (ly_Sc hp) (by decide) rfl rfl (c_at_some hn hp hs (by omega) h1) ⟨rfl, rfl, Nat.le_of_ble_eq_true rfl, Nat.le_of_ble_eq_true rfl⟩ ⟨Nat.le_of_ble_eq_true rfl, Nat.le_of_ble_eq_true rfl⟩ d_Pr_read_6 (Nat.le_of_ble_eq_true rfl) (fun r n2 M2 hp => ?_)
  obtain ⟨rfl, hq1, hq2⟩ := hp
  replace hq1 := hq1.symm
  replace hq2 := hq2.symm
  subst hq1 hq2
  refine fm_cnt (z' := (0, 0)) rfl (fm_st (st' := [.int (nI c), .ref 60]) rfl ?_)
  refine fm_putI (k := 1) (v := nI c) hc K_Pr d_Pr_read_9 q_124 rfl (by decide) (by omega) (by decide) (by decide) (by decide) rfl rfl rfl rfl ?_
  refine fm_aload_n hc d_Pr_read_12 rfl rfl ?_
  refine fm_getI (k := 1) hc K_Pr d_Pr_read_13 q_124 rfl (by decide) (by omega) (by decide) (by decide) (by decide) rfl ?_
  refine fm_top (congrArg Value.int (p1_same _ _ _ _)) ?_
  refine fm_if_lt (tgt := 28) hc d_Pr_read_16 rfl (fun g => absurd g (nI_pos (by omega))) (fun _ => ?_)
  refine fm_aload_n hc d_Pr_read_19 rfl rfl ?_
  refine fm_getI (k := 1) hc K_Pr d_Pr_read_20 q_124 rfl (by decide) (by omega) (by decide) (by decide) (by decide) rfl ?_
  refine fm_top (congrArg Value.int (p1_same _ _ _ _)) ?_
  refine fm_bipush (v := nI 19) hc d_Pr_read_23 rfl ?_
  refine fm_icmp_le (tgt := 30) hc d_Pr_read_25 rfl (fun _ => ?_) (fun g => absurd (nI_le (by omega) (by omega)) g)
  refine fm_aload_n hc d_Pr_read_30 rfl rfl ?_
  refine fm_gets (o := 1) hc d_Pr_read_31 q_603 (by decide) (tb_Z0 hex) ?_
  refine fm_aload_n hc d_Pr_read_34 rfl rfl ?_
  refine fm_getI (k := 1) hc K_Pr d_Pr_read_35 q_124 rfl (by decide) (by omega) (by decide) (by decide) (by decide) rfl ?_
  refine fm_top (congrArg Value.int (p1_same _ _ _ _)) ?_
  refine fm_tald (o := 1) (j := c) (len := 20) hc d_Pr_read_38 (by decide) (tb_T0 hex) (by omega) (by decide) ?_
  refine fm_top (congrArg Value.int (tab_sz c (by omega))) ?_
  refine fm_iconst (v := nI 2) hc d_Pr_read_39 rfl ?_
  refine fm_icmp_ne (tgt := 56) hc d_Pr_read_40 rfl (fun _ => ?_) (fun g => absurd g (by rw [hz]; decide))
  refine fm_iconst (v := nI 0) hc d_Pr_read_56 rfl ?_
  refine fm_putI (k := 2) (v := nI 0) hc K_Pr d_Pr_read_57 q_125 rfl (by decide) (by omega) (by decide) (by decide) (by decide) rfl rfl rfl rfl ?_
  refine fm_aload_n hc d_Pr_read_60 rfl rfl ?_
  refine fm_getI (k := 2) hc K_Pr d_Pr_read_61 q_125 rfl (by decide) (by omega) (by decide) (by decide) (by decide) rfl ?_
  refine fm_top (congrArg Value.int (p1_same _ _ _ _)) ?_
  refine fm_if_lt (tgt := 71) hc d_Pr_read_64 rfl (fun g => absurd g (by decide)) (fun _ => ?_)
  refine fm_iconst (v := nI 1) hc d_Pr_read_67 rfl ?_
  refine fm_goto (tgt := 72) hc d_Pr_read_68 rfl ?_
  exact fm_zret (ty := .boolean) hc hr (by first | rfl | decide) d_Pr_read_72 (Nat.le_refl _) (Nat.le_refl _) ⟨rfl, rfl, rfl⟩
theorem c_takes_1 {l : Launch} {b : Nat} {x : Nat → Nat} {D : va_G} {dA : Nat → ClassId} {tr c d : Nat} {n : Nat} {M : fm_M} (hn : 586 ≤ n) (t8 : 70 ≤ tr) (tn : tr < n) (t1n : tr + 1 < n) (tl : (fm_lay tr).1 = 5) (tl1 : fm_lay (tr + 1) = (110, 6)) (ht1 : M.2.2 tr 10 = some (tr + 1)) (hc20 : c < 20) (hcd : M.1 60 1 = nI c) (hd : M.1 tr 8 = nI d) (hd6 : d ≤ 6) (h1 : d < ag_tk c) : Met l y_Pr_takesFit (Cond.code y_Pr_takesFit b_Pr_takesFit 3 (some .boolean) :: fm_T0) ({ frames := 2, cells := 0, slots := 0, locals := 50 }) (fm_Pc fm_lay fm_nf fm_fk fm_cl b x D dA (fm_tys dA) (fm_EX b x) false [.ref 60, .ref tr] n M) (fm_Qc fm_lay fm_nf fm_fk fm_cl b x D dA (fun r n' M' => r = some (.int (nI 0)) ∧ n' = n ∧ M' = M)) 0 0 (fm_A b) := by
  refine fm_enter (by decide) (Nat.le_of_ble_eq_true rfl) ?_
  intro p e s m args below meth c9 hc hr hnm hex htg
  have htk := tk_le c hc20
  refine fm_gets (o := 2) hc d_Pr_takesFit_0 q_609 (by decide) (tb_Z1 hex) ?_
  refine fm_aload_n hc d_Pr_takesFit_3 rfl rfl ?_
  refine fm_getI (k := 1) hc K_Pr d_Pr_takesFit_4 q_124 rfl (by decide) (by omega) (by decide) (by decide) (by decide) rfl ?_
  refine fm_top (congrArg Value.int hcd) ?_
  refine fm_tald (o := 2) (j := c) (len := 20) hc d_Pr_takesFit_7 (by decide) (tb_T1 hex) (by omega) (by decide) ?_
  refine fm_top (congrArg Value.int (tab_tk c hc20)) ?_
  refine fm_istore_n (lv' := [(2, .int (nI (ag_tk c))), (0, .ref 60), (1, .ref tr)]) hc d_Pr_takesFit_8 rfl (by decide) rfl ?_
  refine fm_aload_n hc d_Pr_takesFit_9 rfl rfl ?_
  refine fm_getI (k := 8) hc K_Tr d_Pr_takesFit_10 q_210 rfl (by omega) tn tl (by decide) (by decide) rfl ?_
  refine fm_top (congrArg Value.int hd) ?_
  refine fm_iload_n hc d_Pr_takesFit_13 rfl rfl ?_
  refine fm_icmp_lt (tgt := 37) hc d_Pr_takesFit_14 rfl (fun _ => ?_) (fun g => absurd (nI_lt h1 (by omega)) g)
  refine fm_iconst (v := nI 0) hc d_Pr_takesFit_37 rfl ?_
  exact fm_zret (ty := .boolean) hc hr (by first | rfl | decide) d_Pr_takesFit_38 (Nat.le_refl _) (Nat.le_refl _) ⟨rfl, rfl, rfl⟩
theorem c_takes_2 {l : Launch} {b : Nat} {x : Nat → Nat} {D : va_G} {dA : Nat → ClassId} {tr c d : Nat} {n : Nat} {M : fm_M} (hn : 586 ≤ n) (t8 : 70 ≤ tr) (tn : tr < n) (t1n : tr + 1 < n) (tl : (fm_lay tr).1 = 5) (tl1 : fm_lay (tr + 1) = (110, 6)) (ht1 : M.2.2 tr 10 = some (tr + 1)) (hc20 : c < 20) (hcd : M.1 60 1 = nI c) (hd : M.1 tr 8 = nI d) (hd6 : d ≤ 6) (h1 : ag_tk c ≤ d) (h2 : 6 < d - ag_tk c + ag_gv c) : Met l y_Pr_takesFit (Cond.code y_Pr_takesFit b_Pr_takesFit 3 (some .boolean) :: fm_T0) ({ frames := 2, cells := 0, slots := 0, locals := 50 }) (fm_Pc fm_lay fm_nf fm_fk fm_cl b x D dA (fm_tys dA) (fm_EX b x) false [.ref 60, .ref tr] n M) (fm_Qc fm_lay fm_nf fm_fk fm_cl b x D dA (fun r n' M' => r = some (.int (nI 0)) ∧ n' = n ∧ M' = M)) 0 0 (fm_A b) := by
  refine fm_enter (by decide) (Nat.le_of_ble_eq_true rfl) ?_
  intro p e s m args below meth c9 hc hr hnm hex htg
  have htk := tk_le c hc20
  refine fm_gets (o := 2) hc d_Pr_takesFit_0 q_609 (by decide) (tb_Z1 hex) ?_
  refine fm_aload_n hc d_Pr_takesFit_3 rfl rfl ?_
  refine fm_getI (k := 1) hc K_Pr d_Pr_takesFit_4 q_124 rfl (by decide) (by omega) (by decide) (by decide) (by decide) rfl ?_
  refine fm_top (congrArg Value.int hcd) ?_
  refine fm_tald (o := 2) (j := c) (len := 20) hc d_Pr_takesFit_7 (by decide) (tb_T1 hex) (by omega) (by decide) ?_
  refine fm_top (congrArg Value.int (tab_tk c hc20)) ?_
  refine fm_istore_n (lv' := [(2, .int (nI (ag_tk c))), (0, .ref 60), (1, .ref tr)]) hc d_Pr_takesFit_8 rfl (by decide) rfl ?_
  refine fm_aload_n hc d_Pr_takesFit_9 rfl rfl ?_
  refine fm_getI (k := 8) hc K_Tr d_Pr_takesFit_10 q_210 rfl (by omega) tn tl (by decide) (by decide) rfl ?_
  refine fm_top (congrArg Value.int hd) ?_
  refine fm_iload_n hc d_Pr_takesFit_13 rfl rfl ?_
  refine fm_icmp_lt (tgt := 37) hc d_Pr_takesFit_14 rfl (fun g => absurd g (hnlt (a := d) (c := ag_tk c) h1 (by omega))) (fun _ => ?_)
  refine fm_aload_n hc d_Pr_takesFit_17 rfl rfl ?_
  refine fm_getI (k := 8) hc K_Tr d_Pr_takesFit_18 q_210 rfl (by omega) tn tl (by decide) (by decide) rfl ?_
  refine fm_top (congrArg Value.int hd) ?_
  refine fm_iload_n hc d_Pr_takesFit_21 rfl rfl ?_
  refine fm_isub hc d_Pr_takesFit_22 ?_
  refine fm_top (congrArg Value.int (pk_sub (a := d) (b := ag_tk c) (by omega))) ?_
  refine fm_gets (o := 3) hc d_Pr_takesFit_23 q_611 (by decide) (tb_Z2 hex) ?_
  refine fm_aload_n hc d_Pr_takesFit_26 rfl rfl ?_
  refine fm_getI (k := 1) hc K_Pr d_Pr_takesFit_27 q_124 rfl (by decide) (by omega) (by decide) (by decide) (by decide) rfl ?_
  refine fm_top (congrArg Value.int hcd) ?_
  refine fm_tald (o := 3) (j := c) (len := 20) hc d_Pr_takesFit_30 (by decide) (tb_T2 hex) (by omega) (by decide) ?_
  refine fm_top (congrArg Value.int (tab_gv c hc20)) ?_
  refine fm_iadd hc d_Pr_takesFit_31 ?_
  refine fm_top (congrArg Value.int (nI_add (d - (ag_tk c)) (ag_gv c))) ?_
  refine fm_bipush (v := nI 6) hc d_Pr_takesFit_32 rfl ?_
  refine fm_icmp_le (tgt := 39) hc d_Pr_takesFit_34 rfl (fun g => absurd g (hnle (a := d - ag_tk c + ag_gv c) (c := 6) h2 (by omega))) (fun _ => ?_)
  refine fm_iconst (v := nI 0) hc d_Pr_takesFit_37 rfl ?_
  exact fm_zret (ty := .boolean) hc hr (by first | rfl | decide) d_Pr_takesFit_38 (Nat.le_refl _) (Nat.le_refl _) ⟨rfl, rfl, rfl⟩
theorem c_takes_3 {l : Launch} {b : Nat} {x : Nat → Nat} {D : va_G} {dA : Nat → ClassId} {tr c d : Nat} {n : Nat} {M : fm_M} (hn : 586 ≤ n) (t8 : 70 ≤ tr) (tn : tr < n) (t1n : tr + 1 < n) (tl : (fm_lay tr).1 = 5) (tl1 : fm_lay (tr + 1) = (110, 6)) (ht1 : M.2.2 tr 10 = some (tr + 1)) (hc20 : c < 20) (hcd : M.1 60 1 = nI c) (hd : M.1 tr 8 = nI d) (hd6 : d ≤ 6) (h1 : ag_tk c ≤ d) (h2 : d - ag_tk c + ag_gv c ≤ 6) (h3 : ag_tk c = 0) : Met l y_Pr_takesFit (Cond.code y_Pr_takesFit b_Pr_takesFit 3 (some .boolean) :: fm_T0) ({ frames := 2, cells := 0, slots := 0, locals := 50 }) (fm_Pc fm_lay fm_nf fm_fk fm_cl b x D dA (fm_tys dA) (fm_EX b x) false [.ref 60, .ref tr] n M) (fm_Qc fm_lay fm_nf fm_fk fm_cl b x D dA (fun r n' M' => r = some (.int (nI 1)) ∧ n' = n ∧ M' = M)) 0 0 (fm_A b) := by
  refine fm_enter (by decide) (Nat.le_of_ble_eq_true rfl) ?_
  intro p e s m args below meth c9 hc hr hnm hex htg
  have htk := tk_le c hc20
  refine fm_gets (o := 2) hc d_Pr_takesFit_0 q_609 (by decide) (tb_Z1 hex) ?_
  refine fm_aload_n hc d_Pr_takesFit_3 rfl rfl ?_
  refine fm_getI (k := 1) hc K_Pr d_Pr_takesFit_4 q_124 rfl (by decide) (by omega) (by decide) (by decide) (by decide) rfl ?_
  refine fm_top (congrArg Value.int hcd) ?_
  refine fm_tald (o := 2) (j := c) (len := 20) hc d_Pr_takesFit_7 (by decide) (tb_T1 hex) (by omega) (by decide) ?_
  refine fm_top (congrArg Value.int (tab_tk c hc20)) ?_
  refine fm_istore_n (lv' := [(2, .int (nI (ag_tk c))), (0, .ref 60), (1, .ref tr)]) hc d_Pr_takesFit_8 rfl (by decide) rfl ?_
  refine fm_aload_n hc d_Pr_takesFit_9 rfl rfl ?_
  refine fm_getI (k := 8) hc K_Tr d_Pr_takesFit_10 q_210 rfl (by omega) tn tl (by decide) (by decide) rfl ?_
  refine fm_top (congrArg Value.int hd) ?_
  refine fm_iload_n hc d_Pr_takesFit_13 rfl rfl ?_
  refine fm_icmp_lt (tgt := 37) hc d_Pr_takesFit_14 rfl (fun g => absurd g (hnlt (a := d) (c := ag_tk c) h1 (by omega))) (fun _ => ?_)
  refine fm_aload_n hc d_Pr_takesFit_17 rfl rfl ?_
  refine fm_getI (k := 8) hc K_Tr d_Pr_takesFit_18 q_210 rfl (by omega) tn tl (by decide) (by decide) rfl ?_
  refine fm_top (congrArg Value.int hd) ?_
  refine fm_iload_n hc d_Pr_takesFit_21 rfl rfl ?_
  refine fm_isub hc d_Pr_takesFit_22 ?_
  refine fm_top (congrArg Value.int (pk_sub (a := d) (b := ag_tk c) (by omega))) ?_
  refine fm_gets (o := 3) hc d_Pr_takesFit_23 q_611 (by decide) (tb_Z2 hex) ?_
  refine fm_aload_n hc d_Pr_takesFit_26 rfl rfl ?_
  refine fm_getI (k := 1) hc K_Pr d_Pr_takesFit_27 q_124 rfl (by decide) (by omega) (by decide) (by decide) (by decide) rfl ?_
  refine fm_top (congrArg Value.int hcd) ?_
  refine fm_tald (o := 3) (j := c) (len := 20) hc d_Pr_takesFit_30 (by decide) (tb_T2 hex) (by omega) (by decide) ?_
  refine fm_top (congrArg Value.int (tab_gv c hc20)) ?_
  refine fm_iadd hc d_Pr_takesFit_31 ?_
  refine fm_top (congrArg Value.int (nI_add (d - (ag_tk c)) (ag_gv c))) ?_
  refine fm_bipush (v := nI 6) hc d_Pr_takesFit_32 rfl ?_
  refine fm_icmp_le (tgt := 39) hc d_Pr_takesFit_34 rfl (fun _ => ?_) (fun g => absurd (nI_le h2 (by omega)) g)
  refine fm_iload_n hc d_Pr_takesFit_39 rfl rfl ?_
  refine fm_if_ne (tgt := 45) hc d_Pr_takesFit_40 rfl (fun g => absurd (congrArg nI h3) g) (fun _ => ?_)
  refine fm_iconst (v := nI 1) hc d_Pr_takesFit_43 rfl ?_
  exact fm_zret (ty := .boolean) hc hr (by first | rfl | decide) d_Pr_takesFit_44 (Nat.le_refl _) (Nat.le_refl _) ⟨rfl, rfl, rfl⟩
theorem c_takes_4 {l : Launch} {b : Nat} {x : Nat → Nat} {D : va_G} {dA : Nat → ClassId} {tr c d : Nat} {lo up : bf_V} {n : Nat} {M : fm_M} (hn : 586 ≤ n) (t8 : 70 ≤ tr) (tn : tr < n) (t1n : tr + 1 < n) (tl : (fm_lay tr).1 = 5) (tl1 : fm_lay (tr + 1) = (110, 6)) (ht1 : M.2.2 tr 10 = some (tr + 1)) (hc20 : c < 20) (hcd : M.1 60 1 = nI c) (hd : M.1 tr 8 = nI d) (hd6 : d ≤ 6) (h1 : ag_tk c ≤ d) (h2 : d - ag_tk c + ag_gv c ≤ 6) (h3 : 1 ≤ ag_tk c) (hup : M.2.1 (tr + 1) (d - 1) = e64 up) (hlo : M.2.1 (tr + 1) (d - ag_tk c) = e64 lo) (eu : e_ok up) (el : e_ok lo) (k1 : ag_kind lo (ag_lo c) = false) : Met l y_Pr_takesFit (Cond.code y_Pr_takesFit b_Pr_takesFit 3 (some .boolean) :: fm_T0) ({ frames := 2, cells := 0, slots := 0, locals := 50 }) (fm_Pc fm_lay fm_nf fm_fk fm_cl b x D dA (fm_tys dA) (fm_EX b x) false [.ref 60, .ref tr] n M) (fm_Qc fm_lay fm_nf fm_fk fm_cl b x D dA (fun r n' M' => r = some (.int (nI 0)) ∧ n' = n ∧ M' = fm_put2 (fm_put2 M 60 4 (e64 up)) 60 3 (e64 lo))) 0 0 (fm_A b) := by
  refine fm_enter (by decide) (Nat.le_of_ble_eq_true rfl) ?_
  intro p e s m args below meth c9 hc hr hnm hex htg
  have htk := tk_le c hc20
  refine fm_gets (o := 2) hc d_Pr_takesFit_0 q_609 (by decide) (tb_Z1 hex) ?_
  refine fm_aload_n hc d_Pr_takesFit_3 rfl rfl ?_
  refine fm_getI (k := 1) hc K_Pr d_Pr_takesFit_4 q_124 rfl (by decide) (by omega) (by decide) (by decide) (by decide) rfl ?_
  refine fm_top (congrArg Value.int hcd) ?_
  refine fm_tald (o := 2) (j := c) (len := 20) hc d_Pr_takesFit_7 (by decide) (tb_T1 hex) (by omega) (by decide) ?_
  refine fm_top (congrArg Value.int (tab_tk c hc20)) ?_
  refine fm_istore_n (lv' := [(2, .int (nI (ag_tk c))), (0, .ref 60), (1, .ref tr)]) hc d_Pr_takesFit_8 rfl (by decide) rfl ?_
  refine fm_aload_n hc d_Pr_takesFit_9 rfl rfl ?_
  refine fm_getI (k := 8) hc K_Tr d_Pr_takesFit_10 q_210 rfl (by omega) tn tl (by decide) (by decide) rfl ?_
  refine fm_top (congrArg Value.int hd) ?_
  refine fm_iload_n hc d_Pr_takesFit_13 rfl rfl ?_
  refine fm_icmp_lt (tgt := 37) hc d_Pr_takesFit_14 rfl (fun g => absurd g (hnlt (a := d) (c := ag_tk c) h1 (by omega))) (fun _ => ?_)
  refine fm_aload_n hc d_Pr_takesFit_17 rfl rfl ?_
  refine fm_getI (k := 8) hc K_Tr d_Pr_takesFit_18 q_210 rfl (by omega) tn tl (by decide) (by decide) rfl ?_
  refine fm_top (congrArg Value.int hd) ?_
  refine fm_iload_n hc d_Pr_takesFit_21 rfl rfl ?_
  refine fm_isub hc d_Pr_takesFit_22 ?_
  refine fm_top (congrArg Value.int (pk_sub (a := d) (b := ag_tk c) (by omega))) ?_
  refine fm_gets (o := 3) hc d_Pr_takesFit_23 q_611 (by decide) (tb_Z2 hex) ?_
  refine fm_aload_n hc d_Pr_takesFit_26 rfl rfl ?_
  refine fm_getI (k := 1) hc K_Pr d_Pr_takesFit_27 q_124 rfl (by decide) (by omega) (by decide) (by decide) (by decide) rfl ?_
  refine fm_top (congrArg Value.int hcd) ?_
  refine fm_tald (o := 3) (j := c) (len := 20) hc d_Pr_takesFit_30 (by decide) (tb_T2 hex) (by omega) (by decide) ?_
  refine fm_top (congrArg Value.int (tab_gv c hc20)) ?_
  refine fm_iadd hc d_Pr_takesFit_31 ?_
  refine fm_top (congrArg Value.int (nI_add (d - (ag_tk c)) (ag_gv c))) ?_
  refine fm_bipush (v := nI 6) hc d_Pr_takesFit_32 rfl ?_
  refine fm_icmp_le (tgt := 39) hc d_Pr_takesFit_34 rfl (fun _ => ?_) (fun g => absurd (nI_le h2 (by omega)) g)
  refine fm_iload_n hc d_Pr_takesFit_39 rfl rfl ?_
  refine fm_if_ne (tgt := 45) hc d_Pr_takesFit_40 rfl (fun _ => ?_) (fun g => absurd g (fun g => hnno (a := ag_tk c) (c := 0) (by omega) (by omega) (by omega) g))
  refine fm_aload_n hc d_Pr_takesFit_45 rfl rfl ?_
  refine fm_aload_n hc d_Pr_takesFit_46 rfl rfl ?_
  refine fm_getR (k := 10) (q := tr + 1) hc K_Tr d_Pr_takesFit_47 q_218 rfl (by omega) tn tl (by decide) (by decide) rfl ht1 ?_
  refine fm_aload_n hc d_Pr_takesFit_50 rfl rfl ?_
  refine fm_getI (k := 8) hc K_Tr d_Pr_takesFit_51 q_210 rfl (by omega) tn tl (by decide) (by decide) rfl ?_
  refine fm_top (congrArg Value.int hd) ?_
  refine fm_iconst (v := nI 1) hc d_Pr_takesFit_54 rfl ?_
  refine fm_isub hc d_Pr_takesFit_55 ?_
  refine fm_top (congrArg Value.int (pk_sub (a := d) (b := 1) (by omega))) ?_
  refine fm_lald (j := d - 1) (len := 6) hc 3 d_Pr_takesFit_56 (by omega) t1n tl1 rfl (by omega) (by decide) ?_
  refine fm_top (congrArg Value.long hup) ?_
  refine fm_putL (k := 4) (v := e64 up) hc K_Pr d_Pr_takesFit_57 q_127 rfl (by decide) (by omega) (by decide) (by decide) (by decide) rfl rfl rfl rfl ?_
  refine fm_aload_n hc d_Pr_takesFit_60 rfl rfl ?_
  refine fm_aload_n hc d_Pr_takesFit_61 rfl rfl ?_
  refine fm_getR (k := 10) (q := tr + 1) hc K_Tr d_Pr_takesFit_62 q_218 rfl (by omega) tn tl (by decide) (by decide) rfl ht1 ?_
  refine fm_aload_n hc d_Pr_takesFit_65 rfl rfl ?_
  refine fm_getI (k := 8) hc K_Tr d_Pr_takesFit_66 q_210 rfl (by omega) tn tl (by decide) (by decide) rfl ?_
  refine fm_top (congrArg Value.int hd) ?_
  refine fm_iload_n hc d_Pr_takesFit_69 rfl rfl ?_
  refine fm_isub hc d_Pr_takesFit_70 ?_
  refine fm_top (congrArg Value.int (pk_sub (a := d) (b := ag_tk c) (by omega))) ?_
  refine fm_lald (j := d - (ag_tk c)) (len := 6) hc 3 d_Pr_takesFit_71 (by omega) t1n tl1 rfl (by omega) (by decide) ?_
  refine fm_top (congrArg Value.long ((p2_other (by omega)).trans hlo)) ?_
  refine fm_putL (k := 3) (v := e64 lo) hc K_Pr d_Pr_takesFit_72 q_126 rfl (by decide) (by omega) (by decide) (by decide) (by decide) rfl rfl rfl rfl ?_
  refine fm_aload_n hc d_Pr_takesFit_75 rfl rfl ?_
  refine fm_getL (k := 3) hc K_Pr d_Pr_takesFit_76 q_126 rfl (by decide) (by omega) (by decide) (by decide) (by decide) rfl ?_
  refine fm_top (congrArg Value.long (p2_same _ _ _ _)) ?_
  refine fm_gets (o := 4) hc d_Pr_takesFit_79 q_613 (by decide) (tb_Z3 hex) ?_
  refine fm_aload_n hc d_Pr_takesFit_82 rfl rfl ?_
  refine fm_getI (k := 1) hc K_Pr d_Pr_takesFit_83 q_124 rfl (by decide) (by omega) (by decide) (by decide) (by decide) rfl ?_
  refine fm_top (congrArg Value.int hcd) ?_
  refine fm_tald (o := 4) (j := c) (len := 20) hc d_Pr_takesFit_86 (by decide) (tb_T3 hex) (by omega) (by decide) ?_
  refine fm_top (congrArg Value.int (tab_lo c hc20)) ?_
  refine fm_callS (av := [.long (e64 lo), .int (nI (ag_lo c))]) (rest := []) (y := y_Pr_isOfKind) (bytes := b_Pr_isOfKind) hc fm_T0_good (fm_EX_st b x) hex q_617 q_4 q_615 q_616 pd_Pr_isOfKind (c_kind_no el htk.2.2.1 k1) ⟨rfl, rfl, Nat.le_of_ble_eq_true rfl, Nat.le_of_ble_eq_true rfl⟩ ⟨Nat.le_of_ble_eq_true rfl, Nat.le_of_ble_eq_true rfl⟩ d_Pr_takesFit_87 (Nat.le_of_ble_eq_true rfl) (fun r n2 M2 hp => ?_)
  obtain ⟨rfl, hq1, hq2⟩ := hp
  replace hq1 := hq1.symm
  replace hq2 := hq2.symm
  subst hq1 hq2
  refine fm_cnt (z' := (0, 0)) rfl (fm_st (st' := [.int (nI 0)]) rfl ?_)
  refine fm_if_eq (tgt := 115) hc d_Pr_takesFit_90 rfl (fun _ => ?_) (fun g => absurd (by decide) g)
  refine fm_iconst (v := nI 0) hc d_Pr_takesFit_115 rfl ?_
  exact fm_zret (ty := .boolean) hc hr (by first | rfl | decide) d_Pr_takesFit_116 (Nat.le_refl _) (Nat.le_refl _) ⟨rfl, rfl, rfl⟩
theorem c_takes_5 {l : Launch} {b : Nat} {x : Nat → Nat} {D : va_G} {dA : Nat → ClassId} {tr c d : Nat} {lo up : bf_V} {n : Nat} {M : fm_M} (hn : 586 ≤ n) (t8 : 70 ≤ tr) (tn : tr < n) (t1n : tr + 1 < n) (tl : (fm_lay tr).1 = 5) (tl1 : fm_lay (tr + 1) = (110, 6)) (ht1 : M.2.2 tr 10 = some (tr + 1)) (hc20 : c < 20) (hcd : M.1 60 1 = nI c) (hd : M.1 tr 8 = nI d) (hd6 : d ≤ 6) (h1 : ag_tk c ≤ d) (h2 : d - ag_tk c + ag_gv c ≤ 6) (h3 : 1 ≤ ag_tk c) (hup : M.2.1 (tr + 1) (d - 1) = e64 up) (hlo : M.2.1 (tr + 1) (d - ag_tk c) = e64 lo) (eu : e_ok up) (el : e_ok lo) (k1 : ag_kind lo (ag_lo c) = true) (k2 : ag_kind up (ag_up c) = false) : Met l y_Pr_takesFit (Cond.code y_Pr_takesFit b_Pr_takesFit 3 (some .boolean) :: fm_T0) ({ frames := 2, cells := 0, slots := 0, locals := 50 }) (fm_Pc fm_lay fm_nf fm_fk fm_cl b x D dA (fm_tys dA) (fm_EX b x) false [.ref 60, .ref tr] n M) (fm_Qc fm_lay fm_nf fm_fk fm_cl b x D dA (fun r n' M' => r = some (.int (nI 0)) ∧ n' = n ∧ M' = fm_put2 (fm_put2 M 60 4 (e64 up)) 60 3 (e64 lo))) 0 0 (fm_A b) := by
  refine fm_enter (by decide) (Nat.le_of_ble_eq_true rfl) ?_
  intro p e s m args below meth c9 hc hr hnm hex htg
  have htk := tk_le c hc20
  refine fm_gets (o := 2) hc d_Pr_takesFit_0 q_609 (by decide) (tb_Z1 hex) ?_
  refine fm_aload_n hc d_Pr_takesFit_3 rfl rfl ?_
  refine fm_getI (k := 1) hc K_Pr d_Pr_takesFit_4 q_124 rfl (by decide) (by omega) (by decide) (by decide) (by decide) rfl ?_
  refine fm_top (congrArg Value.int hcd) ?_
  refine fm_tald (o := 2) (j := c) (len := 20) hc d_Pr_takesFit_7 (by decide) (tb_T1 hex) (by omega) (by decide) ?_
  refine fm_top (congrArg Value.int (tab_tk c hc20)) ?_
  refine fm_istore_n (lv' := [(2, .int (nI (ag_tk c))), (0, .ref 60), (1, .ref tr)]) hc d_Pr_takesFit_8 rfl (by decide) rfl ?_
  refine fm_aload_n hc d_Pr_takesFit_9 rfl rfl ?_
  refine fm_getI (k := 8) hc K_Tr d_Pr_takesFit_10 q_210 rfl (by omega) tn tl (by decide) (by decide) rfl ?_
  refine fm_top (congrArg Value.int hd) ?_
  refine fm_iload_n hc d_Pr_takesFit_13 rfl rfl ?_
  refine fm_icmp_lt (tgt := 37) hc d_Pr_takesFit_14 rfl (fun g => absurd g (hnlt (a := d) (c := ag_tk c) h1 (by omega))) (fun _ => ?_)
  refine fm_aload_n hc d_Pr_takesFit_17 rfl rfl ?_
  refine fm_getI (k := 8) hc K_Tr d_Pr_takesFit_18 q_210 rfl (by omega) tn tl (by decide) (by decide) rfl ?_
  refine fm_top (congrArg Value.int hd) ?_
  refine fm_iload_n hc d_Pr_takesFit_21 rfl rfl ?_
  refine fm_isub hc d_Pr_takesFit_22 ?_
  refine fm_top (congrArg Value.int (pk_sub (a := d) (b := ag_tk c) (by omega))) ?_
  refine fm_gets (o := 3) hc d_Pr_takesFit_23 q_611 (by decide) (tb_Z2 hex) ?_
  refine fm_aload_n hc d_Pr_takesFit_26 rfl rfl ?_
  refine fm_getI (k := 1) hc K_Pr d_Pr_takesFit_27 q_124 rfl (by decide) (by omega) (by decide) (by decide) (by decide) rfl ?_
  refine fm_top (congrArg Value.int hcd) ?_
  refine fm_tald (o := 3) (j := c) (len := 20) hc d_Pr_takesFit_30 (by decide) (tb_T2 hex) (by omega) (by decide) ?_
  refine fm_top (congrArg Value.int (tab_gv c hc20)) ?_
  refine fm_iadd hc d_Pr_takesFit_31 ?_
  refine fm_top (congrArg Value.int (nI_add (d - (ag_tk c)) (ag_gv c))) ?_
  refine fm_bipush (v := nI 6) hc d_Pr_takesFit_32 rfl ?_
  refine fm_icmp_le (tgt := 39) hc d_Pr_takesFit_34 rfl (fun _ => ?_) (fun g => absurd (nI_le h2 (by omega)) g)
  refine fm_iload_n hc d_Pr_takesFit_39 rfl rfl ?_
  refine fm_if_ne (tgt := 45) hc d_Pr_takesFit_40 rfl (fun _ => ?_) (fun g => absurd g (fun g => hnno (a := ag_tk c) (c := 0) (by omega) (by omega) (by omega) g))
  refine fm_aload_n hc d_Pr_takesFit_45 rfl rfl ?_
  refine fm_aload_n hc d_Pr_takesFit_46 rfl rfl ?_
  refine fm_getR (k := 10) (q := tr + 1) hc K_Tr d_Pr_takesFit_47 q_218 rfl (by omega) tn tl (by decide) (by decide) rfl ht1 ?_
  refine fm_aload_n hc d_Pr_takesFit_50 rfl rfl ?_
  refine fm_getI (k := 8) hc K_Tr d_Pr_takesFit_51 q_210 rfl (by omega) tn tl (by decide) (by decide) rfl ?_
  refine fm_top (congrArg Value.int hd) ?_
  refine fm_iconst (v := nI 1) hc d_Pr_takesFit_54 rfl ?_
  refine fm_isub hc d_Pr_takesFit_55 ?_
  refine fm_top (congrArg Value.int (pk_sub (a := d) (b := 1) (by omega))) ?_
  refine fm_lald (j := d - 1) (len := 6) hc 3 d_Pr_takesFit_56 (by omega) t1n tl1 rfl (by omega) (by decide) ?_
  refine fm_top (congrArg Value.long hup) ?_
  refine fm_putL (k := 4) (v := e64 up) hc K_Pr d_Pr_takesFit_57 q_127 rfl (by decide) (by omega) (by decide) (by decide) (by decide) rfl rfl rfl rfl ?_
  refine fm_aload_n hc d_Pr_takesFit_60 rfl rfl ?_
  refine fm_aload_n hc d_Pr_takesFit_61 rfl rfl ?_
  refine fm_getR (k := 10) (q := tr + 1) hc K_Tr d_Pr_takesFit_62 q_218 rfl (by omega) tn tl (by decide) (by decide) rfl ht1 ?_
  refine fm_aload_n hc d_Pr_takesFit_65 rfl rfl ?_
  refine fm_getI (k := 8) hc K_Tr d_Pr_takesFit_66 q_210 rfl (by omega) tn tl (by decide) (by decide) rfl ?_
  refine fm_top (congrArg Value.int hd) ?_
  refine fm_iload_n hc d_Pr_takesFit_69 rfl rfl ?_
  refine fm_isub hc d_Pr_takesFit_70 ?_
  refine fm_top (congrArg Value.int (pk_sub (a := d) (b := ag_tk c) (by omega))) ?_
  refine fm_lald (j := d - (ag_tk c)) (len := 6) hc 3 d_Pr_takesFit_71 (by omega) t1n tl1 rfl (by omega) (by decide) ?_
  refine fm_top (congrArg Value.long ((p2_other (by omega)).trans hlo)) ?_
  refine fm_putL (k := 3) (v := e64 lo) hc K_Pr d_Pr_takesFit_72 q_126 rfl (by decide) (by omega) (by decide) (by decide) (by decide) rfl rfl rfl rfl ?_
  refine fm_aload_n hc d_Pr_takesFit_75 rfl rfl ?_
  refine fm_getL (k := 3) hc K_Pr d_Pr_takesFit_76 q_126 rfl (by decide) (by omega) (by decide) (by decide) (by decide) rfl ?_
  refine fm_top (congrArg Value.long (p2_same _ _ _ _)) ?_
  refine fm_gets (o := 4) hc d_Pr_takesFit_79 q_613 (by decide) (tb_Z3 hex) ?_
  refine fm_aload_n hc d_Pr_takesFit_82 rfl rfl ?_
  refine fm_getI (k := 1) hc K_Pr d_Pr_takesFit_83 q_124 rfl (by decide) (by omega) (by decide) (by decide) (by decide) rfl ?_
  refine fm_top (congrArg Value.int hcd) ?_
  refine fm_tald (o := 4) (j := c) (len := 20) hc d_Pr_takesFit_86 (by decide) (tb_T3 hex) (by omega) (by decide) ?_
  refine fm_top (congrArg Value.int (tab_lo c hc20)) ?_
  refine fm_callS (av := [.long (e64 lo), .int (nI (ag_lo c))]) (rest := []) (y := y_Pr_isOfKind) (bytes := b_Pr_isOfKind) hc fm_T0_good (fm_EX_st b x) hex q_617 q_4 q_615 q_616 pd_Pr_isOfKind (c_kind_ok el htk.2.2.1 k1) ⟨rfl, rfl, Nat.le_of_ble_eq_true rfl, Nat.le_of_ble_eq_true rfl⟩ ⟨Nat.le_of_ble_eq_true rfl, Nat.le_of_ble_eq_true rfl⟩ d_Pr_takesFit_87 (Nat.le_of_ble_eq_true rfl) (fun r n2 M2 hp => ?_)
  obtain ⟨rfl, hq1, hq2⟩ := hp
  replace hq1 := hq1.symm
  replace hq2 := hq2.symm
  subst hq1 hq2
  refine fm_cnt (z' := (0, 0)) rfl (fm_st (st' := [.int (nI 1)]) rfl ?_)
  refine fm_if_eq (tgt := 115) hc d_Pr_takesFit_90 rfl (fun g => absurd g (by decide)) (fun _ => ?_)
  refine fm_aload_n hc d_Pr_takesFit_93 rfl rfl ?_
  refine fm_getL (k := 4) hc K_Pr d_Pr_takesFit_94 q_127 rfl (by decide) (by omega) (by decide) (by decide) (by decide) rfl ?_
  refine fm_top (congrArg Value.long ((p2_at (by decide)).trans (p2_same _ _ _ _))) ?_
  refine fm_gets (o := 5) hc d_Pr_takesFit_97 q_619 (by decide) (tb_Z4 hex) ?_
  refine fm_aload_n hc d_Pr_takesFit_100 rfl rfl ?_
  refine fm_getI (k := 1) hc K_Pr d_Pr_takesFit_101 q_124 rfl (by decide) (by omega) (by decide) (by decide) (by decide) rfl ?_
  refine fm_top (congrArg Value.int hcd) ?_
  refine fm_tald (o := 5) (j := c) (len := 20) hc d_Pr_takesFit_104 (by decide) (tb_T4 hex) (by omega) (by decide) ?_
  refine fm_top (congrArg Value.int (tab_up c hc20)) ?_
  refine fm_callS (av := [.long (e64 up), .int (nI (ag_up c))]) (rest := []) (y := y_Pr_isOfKind) (bytes := b_Pr_isOfKind) hc fm_T0_good (fm_EX_st b x) hex q_617 q_4 q_615 q_616 pd_Pr_isOfKind (c_kind_no eu htk.2.2.2 k2) ⟨rfl, rfl, Nat.le_of_ble_eq_true rfl, Nat.le_of_ble_eq_true rfl⟩ ⟨Nat.le_of_ble_eq_true rfl, Nat.le_of_ble_eq_true rfl⟩ d_Pr_takesFit_105 (Nat.le_of_ble_eq_true rfl) (fun r n2 M2 hp => ?_)
  obtain ⟨rfl, hq1, hq2⟩ := hp
  replace hq1 := hq1.symm
  replace hq2 := hq2.symm
  subst hq1 hq2
  refine fm_cnt (z' := (0, 0)) rfl (fm_st (st' := [.int (nI 0)]) rfl ?_)
  refine fm_if_eq (tgt := 115) hc d_Pr_takesFit_108 rfl (fun _ => ?_) (fun g => absurd (by decide) g)
  refine fm_iconst (v := nI 0) hc d_Pr_takesFit_115 rfl ?_
  exact fm_zret (ty := .boolean) hc hr (by first | rfl | decide) d_Pr_takesFit_116 (Nat.le_refl _) (Nat.le_refl _) ⟨rfl, rfl, rfl⟩
theorem c_takes_6 {l : Launch} {b : Nat} {x : Nat → Nat} {D : va_G} {dA : Nat → ClassId} {tr c d : Nat} {lo up : bf_V} {n : Nat} {M : fm_M} (hn : 586 ≤ n) (t8 : 70 ≤ tr) (tn : tr < n) (t1n : tr + 1 < n) (tl : (fm_lay tr).1 = 5) (tl1 : fm_lay (tr + 1) = (110, 6)) (ht1 : M.2.2 tr 10 = some (tr + 1)) (hc20 : c < 20) (hcd : M.1 60 1 = nI c) (hd : M.1 tr 8 = nI d) (hd6 : d ≤ 6) (h1 : ag_tk c ≤ d) (h2 : d - ag_tk c + ag_gv c ≤ 6) (h3 : 1 ≤ ag_tk c) (hup : M.2.1 (tr + 1) (d - 1) = e64 up) (hlo : M.2.1 (tr + 1) (d - ag_tk c) = e64 lo) (eu : e_ok up) (el : e_ok lo) (k1 : ag_kind lo (ag_lo c) = true) (k2 : ag_kind up (ag_up c) = true) : Met l y_Pr_takesFit (Cond.code y_Pr_takesFit b_Pr_takesFit 3 (some .boolean) :: fm_T0) ({ frames := 2, cells := 0, slots := 0, locals := 50 }) (fm_Pc fm_lay fm_nf fm_fk fm_cl b x D dA (fm_tys dA) (fm_EX b x) false [.ref 60, .ref tr] n M) (fm_Qc fm_lay fm_nf fm_fk fm_cl b x D dA (fun r n' M' => r = some (.int (nI 1)) ∧ n' = n ∧ M' = fm_put2 (fm_put2 M 60 4 (e64 up)) 60 3 (e64 lo))) 0 0 (fm_A b) := by
  refine fm_enter (by decide) (Nat.le_of_ble_eq_true rfl) ?_
  intro p e s m args below meth c9 hc hr hnm hex htg
  have htk := tk_le c hc20
  refine fm_gets (o := 2) hc d_Pr_takesFit_0 q_609 (by decide) (tb_Z1 hex) ?_
  refine fm_aload_n hc d_Pr_takesFit_3 rfl rfl ?_
  refine fm_getI (k := 1) hc K_Pr d_Pr_takesFit_4 q_124 rfl (by decide) (by omega) (by decide) (by decide) (by decide) rfl ?_
  refine fm_top (congrArg Value.int hcd) ?_
  refine fm_tald (o := 2) (j := c) (len := 20) hc d_Pr_takesFit_7 (by decide) (tb_T1 hex) (by omega) (by decide) ?_
  refine fm_top (congrArg Value.int (tab_tk c hc20)) ?_
  refine fm_istore_n (lv' := [(2, .int (nI (ag_tk c))), (0, .ref 60), (1, .ref tr)]) hc d_Pr_takesFit_8 rfl (by decide) rfl ?_
  refine fm_aload_n hc d_Pr_takesFit_9 rfl rfl ?_
  refine fm_getI (k := 8) hc K_Tr d_Pr_takesFit_10 q_210 rfl (by omega) tn tl (by decide) (by decide) rfl ?_
  refine fm_top (congrArg Value.int hd) ?_
  refine fm_iload_n hc d_Pr_takesFit_13 rfl rfl ?_
  refine fm_icmp_lt (tgt := 37) hc d_Pr_takesFit_14 rfl (fun g => absurd g (hnlt (a := d) (c := ag_tk c) h1 (by omega))) (fun _ => ?_)
  refine fm_aload_n hc d_Pr_takesFit_17 rfl rfl ?_
  refine fm_getI (k := 8) hc K_Tr d_Pr_takesFit_18 q_210 rfl (by omega) tn tl (by decide) (by decide) rfl ?_
  refine fm_top (congrArg Value.int hd) ?_
  refine fm_iload_n hc d_Pr_takesFit_21 rfl rfl ?_
  refine fm_isub hc d_Pr_takesFit_22 ?_
  refine fm_top (congrArg Value.int (pk_sub (a := d) (b := ag_tk c) (by omega))) ?_
  refine fm_gets (o := 3) hc d_Pr_takesFit_23 q_611 (by decide) (tb_Z2 hex) ?_
  refine fm_aload_n hc d_Pr_takesFit_26 rfl rfl ?_
  refine fm_getI (k := 1) hc K_Pr d_Pr_takesFit_27 q_124 rfl (by decide) (by omega) (by decide) (by decide) (by decide) rfl ?_
  refine fm_top (congrArg Value.int hcd) ?_
  refine fm_tald (o := 3) (j := c) (len := 20) hc d_Pr_takesFit_30 (by decide) (tb_T2 hex) (by omega) (by decide) ?_
  refine fm_top (congrArg Value.int (tab_gv c hc20)) ?_
  refine fm_iadd hc d_Pr_takesFit_31 ?_
  refine fm_top (congrArg Value.int (nI_add (d - (ag_tk c)) (ag_gv c))) ?_
  refine fm_bipush (v := nI 6) hc d_Pr_takesFit_32 rfl ?_
  refine fm_icmp_le (tgt := 39) hc d_Pr_takesFit_34 rfl (fun _ => ?_) (fun g => absurd (nI_le h2 (by omega)) g)
  refine fm_iload_n hc d_Pr_takesFit_39 rfl rfl ?_
  refine fm_if_ne (tgt := 45) hc d_Pr_takesFit_40 rfl (fun _ => ?_) (fun g => absurd g (fun g => hnno (a := ag_tk c) (c := 0) (by omega) (by omega) (by omega) g))
  refine fm_aload_n hc d_Pr_takesFit_45 rfl rfl ?_
  refine fm_aload_n hc d_Pr_takesFit_46 rfl rfl ?_
  refine fm_getR (k := 10) (q := tr + 1) hc K_Tr d_Pr_takesFit_47 q_218 rfl (by omega) tn tl (by decide) (by decide) rfl ht1 ?_
  refine fm_aload_n hc d_Pr_takesFit_50 rfl rfl ?_
  refine fm_getI (k := 8) hc K_Tr d_Pr_takesFit_51 q_210 rfl (by omega) tn tl (by decide) (by decide) rfl ?_
  refine fm_top (congrArg Value.int hd) ?_
  refine fm_iconst (v := nI 1) hc d_Pr_takesFit_54 rfl ?_
  refine fm_isub hc d_Pr_takesFit_55 ?_
  refine fm_top (congrArg Value.int (pk_sub (a := d) (b := 1) (by omega))) ?_
  refine fm_lald (j := d - 1) (len := 6) hc 3 d_Pr_takesFit_56 (by omega) t1n tl1 rfl (by omega) (by decide) ?_
  refine fm_top (congrArg Value.long hup) ?_
  refine fm_putL (k := 4) (v := e64 up) hc K_Pr d_Pr_takesFit_57 q_127 rfl (by decide) (by omega) (by decide) (by decide) (by decide) rfl rfl rfl rfl ?_
  refine fm_aload_n hc d_Pr_takesFit_60 rfl rfl ?_
  refine fm_aload_n hc d_Pr_takesFit_61 rfl rfl ?_
  refine fm_getR (k := 10) (q := tr + 1) hc K_Tr d_Pr_takesFit_62 q_218 rfl (by omega) tn tl (by decide) (by decide) rfl ht1 ?_
  refine fm_aload_n hc d_Pr_takesFit_65 rfl rfl ?_
  refine fm_getI (k := 8) hc K_Tr d_Pr_takesFit_66 q_210 rfl (by omega) tn tl (by decide) (by decide) rfl ?_
  refine fm_top (congrArg Value.int hd) ?_
  refine fm_iload_n hc d_Pr_takesFit_69 rfl rfl ?_
  refine fm_isub hc d_Pr_takesFit_70 ?_
  refine fm_top (congrArg Value.int (pk_sub (a := d) (b := ag_tk c) (by omega))) ?_
  refine fm_lald (j := d - (ag_tk c)) (len := 6) hc 3 d_Pr_takesFit_71 (by omega) t1n tl1 rfl (by omega) (by decide) ?_
  refine fm_top (congrArg Value.long ((p2_other (by omega)).trans hlo)) ?_
  refine fm_putL (k := 3) (v := e64 lo) hc K_Pr d_Pr_takesFit_72 q_126 rfl (by decide) (by omega) (by decide) (by decide) (by decide) rfl rfl rfl rfl ?_
  refine fm_aload_n hc d_Pr_takesFit_75 rfl rfl ?_
  refine fm_getL (k := 3) hc K_Pr d_Pr_takesFit_76 q_126 rfl (by decide) (by omega) (by decide) (by decide) (by decide) rfl ?_
  refine fm_top (congrArg Value.long (p2_same _ _ _ _)) ?_
  refine fm_gets (o := 4) hc d_Pr_takesFit_79 q_613 (by decide) (tb_Z3 hex) ?_
  refine fm_aload_n hc d_Pr_takesFit_82 rfl rfl ?_
  refine fm_getI (k := 1) hc K_Pr d_Pr_takesFit_83 q_124 rfl (by decide) (by omega) (by decide) (by decide) (by decide) rfl ?_
  refine fm_top (congrArg Value.int hcd) ?_
  refine fm_tald (o := 4) (j := c) (len := 20) hc d_Pr_takesFit_86 (by decide) (tb_T3 hex) (by omega) (by decide) ?_
  refine fm_top (congrArg Value.int (tab_lo c hc20)) ?_
  refine fm_callS (av := [.long (e64 lo), .int (nI (ag_lo c))]) (rest := []) (y := y_Pr_isOfKind) (bytes := b_Pr_isOfKind) hc fm_T0_good (fm_EX_st b x) hex q_617 q_4 q_615 q_616 pd_Pr_isOfKind (c_kind_ok el htk.2.2.1 k1) ⟨rfl, rfl, Nat.le_of_ble_eq_true rfl, Nat.le_of_ble_eq_true rfl⟩ ⟨Nat.le_of_ble_eq_true rfl, Nat.le_of_ble_eq_true rfl⟩ d_Pr_takesFit_87 (Nat.le_of_ble_eq_true rfl) (fun r n2 M2 hp => ?_)
  obtain ⟨rfl, hq1, hq2⟩ := hp
  replace hq1 := hq1.symm
  replace hq2 := hq2.symm
  subst hq1 hq2
  refine fm_cnt (z' := (0, 0)) rfl (fm_st (st' := [.int (nI 1)]) rfl ?_)
  refine fm_if_eq (tgt := 115) hc d_Pr_takesFit_90 rfl (fun g => absurd g (by decide)) (fun _ => ?_)
  refine fm_aload_n hc d_Pr_takesFit_93 rfl rfl ?_
  refine fm_getL (k := 4) hc K_Pr d_Pr_takesFit_94 q_127 rfl (by decide) (by omega) (by decide) (by decide) (by decide) rfl ?_
  refine fm_top (congrArg Value.long ((p2_at (by decide)).trans (p2_same _ _ _ _))) ?_
  refine fm_gets (o := 5) hc d_Pr_takesFit_97 q_619 (by decide) (tb_Z4 hex) ?_
  refine fm_aload_n hc d_Pr_takesFit_100 rfl rfl ?_
  refine fm_getI (k := 1) hc K_Pr d_Pr_takesFit_101 q_124 rfl (by decide) (by omega) (by decide) (by decide) (by decide) rfl ?_
  refine fm_top (congrArg Value.int hcd) ?_
  refine fm_tald (o := 5) (j := c) (len := 20) hc d_Pr_takesFit_104 (by decide) (tb_T4 hex) (by omega) (by decide) ?_
  refine fm_top (congrArg Value.int (tab_up c hc20)) ?_
  refine fm_callS (av := [.long (e64 up), .int (nI (ag_up c))]) (rest := []) (y := y_Pr_isOfKind) (bytes := b_Pr_isOfKind) hc fm_T0_good (fm_EX_st b x) hex q_617 q_4 q_615 q_616 pd_Pr_isOfKind (c_kind_ok eu htk.2.2.2 k2) ⟨rfl, rfl, Nat.le_of_ble_eq_true rfl, Nat.le_of_ble_eq_true rfl⟩ ⟨Nat.le_of_ble_eq_true rfl, Nat.le_of_ble_eq_true rfl⟩ d_Pr_takesFit_105 (Nat.le_of_ble_eq_true rfl) (fun r n2 M2 hp => ?_)
  obtain ⟨rfl, hq1, hq2⟩ := hp
  replace hq1 := hq1.symm
  replace hq2 := hq2.symm
  subst hq1 hq2
  refine fm_cnt (z' := (0, 0)) rfl (fm_st (st' := [.int (nI 1)]) rfl ?_)
  refine fm_if_eq (tgt := 115) hc d_Pr_takesFit_108 rfl (fun g => absurd g (by decide)) (fun _ => ?_)
  refine fm_iconst (v := nI 1) hc d_Pr_takesFit_111 rfl ?_
  refine fm_goto (tgt := 116) hc d_Pr_takesFit_112 rfl ?_
  exact fm_zret (ty := .boolean) hc hr (by first | rfl | decide) d_Pr_takesFit_116 (Nat.le_refl _) (Nat.le_refl _) ⟨rfl, rfl, rfl⟩
