/-! PERFORM: reading, fitting, bounds, as the agent's own words say -/
theorem rd_some {sc : List Nat} {pl c y : Nat} (h : ag_read sc pl = some (c, y)) : sc[pl]? = some c ∧ c ≤ 19 ∧ ((ag_sz c = 2 ∧ sc[pl + 1]? = some y) ∨ (ag_sz c = 1 ∧ y = 0)) := by
  unfold ag_read at h
  cases h1 : sc[pl]? with
  | none => rw [h1] at h; cases h
  | some c1 =>
    rw [h1] at h
    have h : (if 19 < c1 then none else if ag_sz c1 = 2 then (match sc[pl + 1]? with
      | none => none
      | some y => some (c1, y)) else some (c1, 0)) = some (c, y) := h
    by_cases g : 19 < c1
    · rw [if_pos g] at h; cases h
    · rw [if_neg g] at h
      by_cases g2 : ag_sz c1 = 2
      · rw [if_pos g2] at h
        cases h2 : sc[pl + 1]? with
        | none => rw [h2] at h; cases h
        | some y1 => rw [h2] at h; cases h; exact ⟨rfl, by omega, Or.inl ⟨g2, rfl⟩⟩
      · rw [if_neg g2] at h
        cases h
        exact ⟨rfl, by omega, Or.inr ⟨(sz_two _ (by omega)).resolve_right g2, rfl⟩⟩
theorem rd_none {sc : List Nat} {pl : Nat} (h : ag_read sc pl = none) : sc[pl]? = none ∨ (∃ c, sc[pl]? = some c ∧ 19 < c) ∨ (∃ c, sc[pl]? = some c ∧ c ≤ 19 ∧ ag_sz c = 2 ∧ sc[pl + 1]? = none) := by
  unfold ag_read at h
  cases h1 : sc[pl]? with
  | none => exact Or.inl rfl
  | some c1 =>
    rw [h1] at h
    have h : (if 19 < c1 then none else if ag_sz c1 = 2 then (match sc[pl + 1]? with
      | none => none
      | some y => some (c1, y)) else some (c1, 0)) = none := h
    by_cases g : 19 < c1
    · exact Or.inr (Or.inl ⟨c1, rfl, g⟩)
    · rw [if_neg g] at h
      by_cases g2 : ag_sz c1 = 2
      · rw [if_pos g2] at h
        cases h2 : sc[pl + 1]? with
        | none => exact Or.inr (Or.inr ⟨c1, rfl, by omega, g2, rfl⟩)
        | some y1 => rw [h2] at h; cases h
      · rw [if_neg g2] at h
        cases h
theorem e_of {n : Nat} (hn : n ≤ 16) {v : bf_V} (h : ag_in n v) : e_ok v := in_le hn h
theorem getD_mem {s : List bf_V} {k : Nat} (h : k < s.length) : s[k]? = some (s.getD k (.inl 0)) ∧ s.getD k (.inl 0) ∈ s := by
  have e : s[k]? = some s[k] := List.getElem?_eq_getElem h
  have e2 : s.getD k (.inl 0) = s[k] := by rw [List.getD_eq_getElem?_getD, e]; rfl
  rw [e2]
  exact ⟨e, List.mem_of_getElem? e⟩
theorem tk_case {l : Launch} {b : Nat} {x : Nat → Nat} {D : va_G} {dA : Nat → ClassId} {tr n c : Nat} {A : ag_T} {M : fm_M} (hn : 586 ≤ n) (hT : tr_L n tr) (hP : tr_P M tr) (h : hc_A M tr A) (ok : ag_ok A) (hc20 : c < 20) (hcd : M.1 60 1 = nI c) : ∃ Mb : fm_M, Met l y_Pr_takesFit (Cond.code y_Pr_takesFit b_Pr_takesFit 3 (some .boolean) :: fm_T0) ({ frames := 2, cells := 0, slots := 0, locals := 50 }) (fm_Pc fm_lay fm_nf fm_fk fm_cl b x D dA (fm_tys dA) (fm_EX b x) false [.ref 60, .ref tr] n (M)) (fm_Qc fm_lay fm_nf fm_fk fm_cl b x D dA (fun r n' M' => r = some (.int (nI (if ag_takes c A then 1 else 0))) ∧ n' = n ∧ M' = Mb)) 0 0 (fm_A b) ∧ Mb.1 = M.1 ∧ Mb.2.2 = M.2.2 ∧ hc_A Mb tr A ∧ fr_P tr M Mb ∧ (ag_takes c A = true → 1 ≤ ag_tk c → Mb.2.1 60 3 = e64 (ag_low c A) ∧ Mb.2.1 60 4 = e64 (ag_upp A)) := by
  obtain ⟨t8, t3, tl, tl1, tl2, tl3⟩ := hT
  obtain ⟨ok1, ok2, ok3, ok4⟩ := ok
  by_cases h1 : ag_tk c ≤ A.2.1.length
  · by_cases h2 : A.2.1.length - ag_tk c + ag_gv c ≤ 6
    · by_cases h3 : ag_tk c = 0
      · have e : ag_takes c A = true := by simp [ag_takes, h1, h2, h3]; omega
        refine ⟨M, ?_, rfl, rfl, h, frP_rf tr M, fun _ g => by omega⟩
        rw [if_pos e]
        exact (c_takes_3 hn t8 (by omega) (by omega) tl tl1 hP.1 hc20 hcd h.2.1 ok1 h1 h2 h3 : Met l y_Pr_takesFit (Cond.code y_Pr_takesFit b_Pr_takesFit 3 (some .boolean) :: fm_T0) ({ frames := 2, cells := 0, slots := 0, locals := 50 }) (fm_Pc fm_lay fm_nf fm_fk fm_cl b x D dA (fm_tys dA) (fm_EX b x) false [.ref 60, .ref tr] n (M)) (fm_Qc fm_lay fm_nf fm_fk fm_cl b x D dA (fun r n' M' => r = some (.int (nI 1)) ∧ n' = n ∧ M' = M)) 0 0 (fm_A b))
      · have gu := getD_mem (s := A.2.1) (k := A.2.1.length - 1) (by omega)
        have gl := getD_mem (s := A.2.1) (k := A.2.1.length - ag_tk c) (by omega)
        have eu : e_ok (ag_upp A) := e_of (by omega) (ok3 _ gu.2)
        have el : e_ok (ag_low c A) := e_of (by omega) (ok3 _ gl.2)
        have hu : M.2.1 (tr + 1) (A.2.1.length - 1) = e64 (ag_upp A) := h.2.2.2.1 _ _ gu.1
        have hl : M.2.1 (tr + 1) (A.2.1.length - ag_tk c) = e64 (ag_low c A) := h.2.2.2.1 _ _ gl.1
        refine ⟨fm_put2 (fm_put2 M 60 4 (e64 (ag_upp A))) 60 3 (e64 (ag_low c A)), ?_, rfl, rfl, hcA_o2 (by omega) (by omega) (by omega) (hcA_o2 (by omega) (by omega) (by omega) h), frP_p2 (Or.inr (by decide)) (frP_p2 (Or.inr (by decide)) (frP_rf tr M)), fun _ _ => ⟨p2_same _ _ _ _, (p2_at (by decide)).trans (p2_same _ _ _ _)⟩⟩
        cases k1 : ag_kind (ag_low c A) (ag_lo c) with
        | false =>
          have e : ag_takes c A = false := by simp [ag_takes, h3, k1]
          rw [e]
          exact c_takes_4 hn t8 (by omega) (by omega) tl tl1 hP.1 hc20 hcd h.2.1 ok1 h1 h2 (by omega) hu hl eu el k1
        | true =>
          cases k2 : ag_kind (ag_upp A) (ag_up c) with
          | false =>
            have e : ag_takes c A = false := by simp [ag_takes, h3, k1, k2]
            rw [e]
            exact c_takes_5 hn t8 (by omega) (by omega) tl tl1 hP.1 hc20 hcd h.2.1 ok1 h1 h2 (by omega) hu hl eu el k1 k2
          | true =>
            have e : ag_takes c A = true := by simp [ag_takes, h1, h2, k1, k2]
            rw [if_pos e]
            exact c_takes_6 hn t8 (by omega) (by omega) tl tl1 hP.1 hc20 hcd h.2.1 ok1 h1 h2 (by omega) hu hl eu el k1 k2
    · have e : ag_takes c A = false := by simp [ag_takes, h2]
      refine ⟨M, ?_, rfl, rfl, h, frP_rf tr M, fun g _ => by rw [e] at g; cases g⟩
      rw [e]
      exact (c_takes_2 hn t8 (by omega) (by omega) tl tl1 hP.1 hc20 hcd h.2.1 ok1 h1 (by omega) : Met l y_Pr_takesFit (Cond.code y_Pr_takesFit b_Pr_takesFit 3 (some .boolean) :: fm_T0) ({ frames := 2, cells := 0, slots := 0, locals := 50 }) (fm_Pc fm_lay fm_nf fm_fk fm_cl b x D dA (fm_tys dA) (fm_EX b x) false [.ref 60, .ref tr] n (M)) (fm_Qc fm_lay fm_nf fm_fk fm_cl b x D dA (fun r n' M' => r = some (.int (nI 0)) ∧ n' = n ∧ M' = M)) 0 0 (fm_A b))
  · have e : ag_takes c A = false := by simp [ag_takes, h1]
    refine ⟨M, ?_, rfl, rfl, h, frP_rf tr M, fun g _ => by rw [e] at g; cases g⟩
    rw [e]
    exact (c_takes_1 hn t8 (by omega) (by omega) tl tl1 hP.1 hc20 hcd h.2.1 ok1 (by omega) : Met l y_Pr_takesFit (Cond.code y_Pr_takesFit b_Pr_takesFit 3 (some .boolean) :: fm_T0) ({ frames := 2, cells := 0, slots := 0, locals := 50 }) (fm_Pc fm_lay fm_nf fm_fk fm_cl b x D dA (fm_tys dA) (fm_EX b x) false [.ref 60, .ref tr] n (M)) (fm_Qc fm_lay fm_nf fm_fk fm_cl b x D dA (fun r n' M' => r = some (.int (nI 0)) ∧ n' = n ∧ M' = M)) 0 0 (fm_A b))
theorem int_of {A : ag_T} {c : Nat} (h1 : 1 ≤ ag_tk c) (ht : ag_takes c A = true) (hu : ag_up c = 1) : ∃ y, ag_upp A = .inl y := by
  have h2 : ag_kind (ag_upp A) (ag_up c) = true := by
    have h3 : (ag_tk c == 0) = false := by simp; omega
    simp only [ag_takes, h3, Bool.false_or, Bool.and_eq_true] at ht
    exact ht.2.2
  rw [hu] at h2
  cases hv : ag_upp A with
  | inl y => exact ⟨y, rfl⟩
  | inr k => rw [hv] at h2; exact absurd h2 (by simp [ag_kind])
theorem bd_case {l : Launch} {b : Nat} {x : Nat → Nat} {D : va_G} {dA : Nat → ClassId} {tr n c y : Nat} {A : ag_T} {M : fm_M} (hn : 586 ≤ n) (hT : tr_L n tr) (hP : tr_P M tr) (h : hc_A M tr A) (ok : ag_ok A) (hc20 : c < 20) (hcd : M.1 60 1 = nI c) (hy : M.1 60 2 = nI y) (hy2 : y < 256) (hs5 : A.1 5 < 1000) (ht : ag_takes c A = true) (hu : 1 ≤ ag_tk c → M.2.1 60 4 = e64 (ag_upp A)) : Met l y_Pr_boundsFit (Cond.code y_Pr_boundsFit b_Pr_boundsFit 2 (some .boolean) :: fm_T0) ({ frames := 0, cells := 0, slots := 0, locals := 0 }) (fm_Pc fm_lay fm_nf fm_fk fm_cl b x D dA (fm_tys dA) (fm_EX b x) false [.ref 60, .ref tr] n (M)) (fm_Qc fm_lay fm_nf fm_fk fm_cl b x D dA (fun r n' M' => r = some (.int (nI (if ag_bnd c y A then 1 else 0))) ∧ n' = n ∧ M' = M)) 0 0 (fm_A b) := by
  obtain ⟨t8, t3, tl, tl1, tl2, tl3⟩ := hT
  obtain ⟨ok1, ok2, ok3, ok4⟩ := ok
  rcases (show c = 0 ∨ c = 1 ∨ c = 2 ∨ c = 3 ∨ c = 4 ∨ c = 5 ∨ c = 6 ∨ c = 7 ∨ c = 8 ∨ c = 9 ∨ c = 10 ∨ c = 11 ∨ c = 12 ∨ c = 13 ∨ c = 14 ∨ c = 15 ∨ c = 16 ∨ c = 17 ∨ c = 18 ∨ c = 19 by omega) with rfl | rfl | rfl | rfl | rfl | rfl | rfl | rfl | rfl | rfl | rfl | rfl | rfl | rfl | rfl | rfl | rfl | rfl | rfl | rfl
  · exact c_bnd_0 hn hcd
  · exact c_bnd_1 hn hcd
  · exact c_bnd_2 hn hcd
  · exact c_bnd_3 hn hcd
  · exact c_bnd_4 hn hcd
  · by_cases g : y < A.2.1.length
    · have e : ag_bnd 5 y A = true := by simp [ag_bnd, g]
      rw [if_pos e]
      exact c_bnd_5 hn t8 (by omega) (by omega) (by omega) (by omega) tl tl1 tl2 tl3 hP.1 hP.2.1 hP.2.2 hcd hy h.2.1 ok1 hy2 g
    · have e : ag_bnd 5 y A = false := by simp [ag_bnd]; omega
      rw [e]
      exact c_bnd_5n hn t8 (by omega) (by omega) (by omega) (by omega) tl tl1 tl2 tl3 hP.1 hP.2.1 hP.2.2 hcd hy h.2.1 ok1 hy2 (by omega)
  · exact c_bnd_6 hn hcd
  · by_cases g : y < 8
    · have e : ag_bnd 7 y A = true := by simp [ag_bnd, g]
      rw [if_pos e]
      exact c_bnd_7 hn t8 (by omega) (by omega) (by omega) (by omega) tl tl1 tl2 tl3 hP.1 hP.2.1 hP.2.2 hcd hy hy2 g
    · have e : ag_bnd 7 y A = false := by simp [ag_bnd]; omega
      rw [e]
      exact c_bnd_7n hn t8 (by omega) (by omega) (by omega) (by omega) tl tl1 tl2 tl3 hP.1 hP.2.1 hP.2.2 hcd hy hy2 (by omega)
  · by_cases g : A.1 5 < 16
    · have e : ag_bnd 8 y A = true := by simp [ag_bnd, g]
      rw [if_pos e]
      exact c_bnd_8 hn t8 (by omega) (by omega) (by omega) (by omega) tl tl1 tl2 tl3 hP.1 hP.2.1 hP.2.2 hcd (h.1 5 (by decide)) hs5 g
    · have e : ag_bnd 8 y A = false := by simp [ag_bnd]; omega
      rw [e]
      exact c_bnd_8n hn t8 (by omega) (by omega) (by omega) (by omega) tl tl1 tl2 tl3 hP.1 hP.2.1 hP.2.2 hcd (h.1 5 (by decide)) hs5 (by omega)
  · obtain ⟨v, hv⟩ := int_of (by decide) ht (by decide)
    have hu4 : M.2.1 60 4 = v.toInt64 := by rw [hu (by decide), hv]; rfl
    by_cases g : v < 0
    · have e : ag_bnd 9 y A = false := by simp only [ag_bnd, hv, ag_int, decide_eq_false (Int32.not_le.mpr g), Bool.false_and]
      rw [e]
      exact c_bnd_9n hn t8 (by omega) (by omega) (by omega) (by omega) tl tl1 tl2 tl3 hP.1 hP.2.1 hP.2.2 hcd hu4 g
    · by_cases g2 : v < 4
      · have e : ag_bnd 9 y A = true := by simp [ag_bnd, hv, ag_int, Int32.not_lt.mp g, g2]
        rw [if_pos e]
        exact c_bnd_9 hn t8 (by omega) (by omega) (by omega) (by omega) tl tl1 tl2 tl3 hP.1 hP.2.1 hP.2.2 hcd hu4 g g2
      · have e : ag_bnd 9 y A = false := by simp only [ag_bnd, hv, ag_int, decide_eq_false g2, Bool.and_false]
        rw [e]
        exact c_bnd_9m hn t8 (by omega) (by omega) (by omega) (by omega) tl tl1 tl2 tl3 hP.1 hP.2.1 hP.2.2 hcd hu4 g g2
  · exact c_bnd_10 hn hcd
  · exact c_bnd_11 hn hcd
  · exact c_bnd_12 hn hcd
  · obtain ⟨v, hv⟩ := int_of (by decide) ht (by decide)
    have hu4 : M.2.1 60 4 = v.toInt64 := by rw [hu (by decide), hv]; rfl
    by_cases g : v < 0
    · have e : ag_bnd 13 y A = false := by simp only [ag_bnd, hv, ag_int, decide_eq_false (Int32.not_le.mpr g), Bool.false_and]
      rw [e]
      exact c_bnd_13n hn t8 (by omega) (by omega) (by omega) (by omega) tl tl1 tl2 tl3 hP.1 hP.2.1 hP.2.2 hcd hu4 g
    · by_cases g2 : v ≤ 20
      · have e : ag_bnd 13 y A = true := by simp [ag_bnd, hv, ag_int, Int32.not_lt.mp g, g2]
        rw [if_pos e]
        exact c_bnd_13 hn t8 (by omega) (by omega) (by omega) (by omega) tl tl1 tl2 tl3 hP.1 hP.2.1 hP.2.2 hcd hu4 g g2
      · have e : ag_bnd 13 y A = false := by simp only [ag_bnd, hv, ag_int, decide_eq_false g2, Bool.and_false]
        rw [e]
        exact c_bnd_13m hn t8 (by omega) (by omega) (by omega) (by omega) tl tl1 tl2 tl3 hP.1 hP.2.1 hP.2.2 hcd hu4 g g2
  · by_cases g : A.2.2.length < 8
    · have e : ag_bnd 14 y A = true := by simp [ag_bnd, g]
      rw [if_pos e]
      exact c_bnd_14 hn t8 (by omega) (by omega) (by omega) (by omega) tl tl1 tl2 tl3 hP.1 hP.2.1 hP.2.2 hcd h.2.2.1 ok2 g
    · have e : ag_bnd 14 y A = false := by simp [ag_bnd]; omega
      rw [e]
      exact c_bnd_14n hn t8 (by omega) (by omega) (by omega) (by omega) tl tl1 tl2 tl3 hP.1 hP.2.1 hP.2.2 hcd h.2.2.1 ok2 (by omega)
  · exact c_bnd_15 hn hcd
  · exact c_bnd_16 hn hcd
  · exact c_bnd_17 hn hcd
  · exact c_bnd_18 hn hcd
  · exact c_bnd_19 hn hcd
