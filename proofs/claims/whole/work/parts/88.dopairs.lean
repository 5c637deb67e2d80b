/-! PERFORM: what the instructions on pairs do -/
theorem p1_comm {M : fm_M} {o k j : Nat} {a c : Int32} (h : k ≠ j) : fm_put1 (fm_put1 M o k a) o j c = fm_put1 (fm_put1 M o j c) o k a := by
  unfold fm_put1
  refine Prod.ext ?_ rfl
  funext q i
  by_cases hq : q = o
  · subst hq
    by_cases h1 : i = j
    · subst h1
      simp [va_up, Ne.symm h]
    · by_cases h2 : i = k
      · subst h2
        simp [va_up, h1]
      · simp [va_up, h1, h2]
  · simp [va_up, hq]
theorem e64_inj {a c : bf_V} (ha : e_ok a) (hc : e_ok c) (h : e64 a = e64 c) : a = c := by
  cases a with
  | inl u =>
    cases c with
    | inl v => exact congrArg Sum.inl ((l64_eq u v).mp h)
    | inr k => exact absurd (show (1099511627776 + (nI k).toInt64 : Int64) < 1099511627776 by rw [← show u.toInt64 = 1099511627776 + (nI k).toInt64 from h]; exact vx_int u) (vx_pair k hc)
  | inr j =>
    cases c with
    | inl v => exact absurd (show (1099511627776 + (nI j).toInt64 : Int64) < 1099511627776 by rw [show 1099511627776 + (nI j).toInt64 = v.toInt64 from h]; exact vx_int v) (vx_pair j ha)
    | inr k => exact congrArg Sum.inr (vx_inj j ha k hc h)
theorem hcA_newp {M : fm_M} {tr np d : Nat} {p1 p2 : Int64} {a c : bf_V} {N : Nat → Nat} {s : List bf_V} {p : List (bf_V × bf_V)} (hd : s.length = d) (hp : p.length = np) (h1 : e64 a = p1) (h2 : e64 c = p2) (h : hc_A M tr (N, s, p)) : hc_A (fm_put1 (fm_put1 (fm_put2 (fm_put2 (fm_put2 M (tr + 2) np p1) (tr + 3) np p2) (tr + 1) d (1099511627776 + (nI np).toInt64)) tr 8 (nI (d + 1))) tr 9 (nI (np + 1))) tr (N, s ++ [.inr np], p ++ [(a, c)]) := by
  rw [p1_comm (by decide)]
  exact hcA_push (M := fm_put1 (fm_put2 (fm_put2 M (tr + 2) np p1) (tr + 3) np p2) tr 9 (nI (np + 1))) hd rfl (hcA_pair hp h1 h2 h)
theorem fr_newp {M : fm_M} {tr np d : Nat} {p1 p2 v : Int64} {a c : Int32} : fr_P tr M (fm_put1 (fm_put1 (fm_put2 (fm_put2 (fm_put2 M (tr + 2) np p1) (tr + 3) np p2) (tr + 1) d v) tr 8 a) tr 9 c) := frP_p1 (Or.inl rfl) (frP_p1 (Or.inl rfl) (frP_p2 (Or.inl (Or.inl rfl)) (frP_p2 (Or.inl (Or.inr (Or.inr rfl))) (frP_p2 (Or.inl (Or.inr (Or.inl rfl))) (frP_rf tr M)))))
theorem do_pairs {l : Launch} {b : Nat} {x : Nat → Nat} {D : va_G} {dA : Nat → ClassId} {tr he n c y : Nat} {N : Nat → Nat} {s : List bf_V} {p : List (bf_V × bf_V)} {lo up : bf_V} {tbl : Nat → Int32} {M : fm_M} (hn : 586 ≤ n) (hT : tr_L n tr) (hP : tr_P M tr) (h : hc_A M tr (N, s, p)) (hs6 : s.length + ag_gv c ≤ 6) (hp8 : p.length ≤ 8) (hcd : M.1 60 1 = nI c) (hy : M.1 60 2 = nI y) (hy2 : y < 256) (hlu : 1 ≤ ag_tk c → M.2.1 60 3 = e64 lo ∧ M.2.1 60 4 = e64 up) (c14 : 14 ≤ c) (c20 : c < 20) (el : e_ok lo) (eu : e_ok up) (hkp : (c = 15 ∨ c = 16 ∨ c = 17 ∨ c = 18) → ∃ k, lo = .inr k ∧ k < p.length) (hnp : c = 14 → p.length < 8) : ∃ Mc : fm_M, Met l y_Pr_doPairs (Cond.code y_Pr_doPairs b_Pr_doPairs 3 (some .int) :: fm_T0) ({ frames := 2, cells := 0, slots := 0, locals := 60 }) (fm_Pc fm_lay fm_nf fm_fk fm_cl b x D dA (fm_tys dA) (fm_EX b x) false [.ref 60, .ref tr] n (M)) (fm_Qc fm_lay fm_nf fm_fk fm_cl b x D dA (fun r n' M' => r = some (.int (nI (ag_do c y tbl he N s p lo up).1)) ∧ n' = n ∧ M' = Mc)) 0 0 (fm_A b) ∧ hc_A Mc tr (ag_do c y tbl he N s p lo up).2.2 ∧ (((ag_do c y tbl he N s p lo up).1 = 1 ∨ (ag_do c y tbl he N s p lo up).1 = 2 ∨ (ag_do c y tbl he N s p lo up).1 = 3) → Mc.1 60 5 = (ag_do c y tbl he N s p lo up).2.1) ∧ fr_P tr M Mc := by
  obtain ⟨t8, t3, tl, tl1, tl2, tl3⟩ := hT
  have hd : M.1 tr 8 = nI s.length := h.2.1
  rcases (show c = 14 ∨ c = 15 ∨ c = 16 ∨ c = 17 ∨ c = 18 ∨ c = 19 by omega) with rfl | rfl | rfl | rfl | rfl | rfl
  · obtain ⟨hl, hu⟩ := hlu (by decide)
    cases lo with
    | inl a => exact ⟨_, c_pairs_14i hn t8 (by omega) (by omega) (by omega) (by omega) tl tl1 tl2 tl3 hP.1 hP.2.1 hP.2.2 hcd hl (vx_int a) hu h.2.2.1 (hnp rfl) hd (show s.length < 6 from Nat.lt_of_succ_le hs6), hcA_newp rfl rfl rfl rfl h, (fun g => by rcases g with g | g | g <;> cases g), fr_newp⟩
    | inr k => exact ⟨_, c_pairs_14p hn t8 (by omega) (by omega) (by omega) (by omega) tl tl1 tl2 tl3 hP.1 hP.2.1 hP.2.2 hcd hl el hu h.2.2.1 (hnp rfl) hd (show s.length < 6 from Nat.lt_of_succ_le hs6), hcA_newp rfl rfl rfl rfl h, (fun g => by rcases g with g | g | g <;> cases g), fr_newp⟩
  · obtain ⟨hl, hu⟩ := hlu (by decide)
    obtain ⟨k, rfl, hk⟩ := hkp (by decide)
    have hv : e64 (ag_fn p k).1 = M.2.1 (tr + 2) k := (h.2.2.2.2 k _ (fn_get hk)).1.symm
    exact ⟨_, c_pairs_15 hn t8 (by omega) (by omega) (by omega) (by omega) tl tl1 tl2 tl3 hP.1 hP.2.1 hP.2.2 hcd hl el hu hd (show s.length < 6 from Nat.lt_of_succ_le hs6) (by omega), hcA_push rfl hv h, (fun g => by rcases g with g | g | g <;> cases g), (frP_p1 (Or.inl rfl) (frP_p2 (Or.inl (Or.inl rfl)) (frP_rf tr M)))⟩
  · obtain ⟨hl, hu⟩ := hlu (by decide)
    obtain ⟨k, rfl, hk⟩ := hkp (by decide)
    have hv : e64 (ag_fn p k).2 = M.2.1 (tr + 3) k := (h.2.2.2.2 k _ (fn_get hk)).2.symm
    exact ⟨_, c_pairs_16 hn t8 (by omega) (by omega) (by omega) (by omega) tl tl1 tl2 tl3 hP.1 hP.2.1 hP.2.2 hcd hl el hu hd (show s.length < 6 from Nat.lt_of_succ_le hs6) (by omega), hcA_push rfl hv h, (fun g => by rcases g with g | g | g <;> cases g), (frP_p1 (Or.inl rfl) (frP_p2 (Or.inl (Or.inl rfl)) (frP_rf tr M)))⟩
  · obtain ⟨hl, hu⟩ := hlu (by decide)
    obtain ⟨k, rfl, hk⟩ := hkp (by decide)
    exact ⟨_, c_pairs_17 hn t8 (by omega) (by omega) (by omega) (by omega) tl tl1 tl2 tl3 hP.1 hP.2.1 hP.2.2 hcd hl el hu (by omega), hcA_set1 rfl h, (fun g => by rcases g with g | g | g <;> cases g), frP_p2 (Or.inl (Or.inr (Or.inl rfl))) (frP_rf tr M)⟩
  · obtain ⟨hl, hu⟩ := hlu (by decide)
    obtain ⟨k, rfl, hk⟩ := hkp (by decide)
    exact ⟨_, c_pairs_18 hn t8 (by omega) (by omega) (by omega) (by omega) tl tl1 tl2 tl3 hP.1 hP.2.1 hP.2.2 hcd hl el hu (by omega), hcA_set2 rfl h, (fun g => by rcases g with g | g | g <;> cases g), frP_p2 (Or.inl (Or.inr (Or.inr rfl))) (frP_rf tr M)⟩
  · obtain ⟨hl, hu⟩ := hlu (by decide)
    cases lo with
    | inl a =>
      by_cases g : e64 (.inl a) = e64 up
      · have e : ag_do 19 y tbl he N s p (.inl a) up = (0, 0, N, s ++ [.inl 1], p) := by
          simp only [ag_do]
          rw [if_pos (e64_inj el eu g)]
        rw [e]
        exact ⟨_, c_pairs_19ie hn t8 (by omega) (by omega) (by omega) (by omega) tl tl1 tl2 tl3 hP.1 hP.2.1 hP.2.2 hcd hl (vx_int a) hu hd (show s.length < 6 from Nat.lt_of_succ_le hs6) g, hcA_push rfl rfl h, (fun g => by rcases g with g | g | g <;> cases g), (frP_p1 (Or.inl rfl) (frP_p2 (Or.inl (Or.inl rfl)) (frP_rf tr M)))⟩
      · have e : ag_do 19 y tbl he N s p (.inl a) up = (0, 0, N, s ++ [.inl 0], p) := by
          simp only [ag_do]
          rw [if_neg (fun q => g (by rw [q]))]
        rw [e]
        exact ⟨_, c_pairs_19in hn t8 (by omega) (by omega) (by omega) (by omega) tl tl1 tl2 tl3 hP.1 hP.2.1 hP.2.2 hcd hl (vx_int a) hu hd (show s.length < 6 from Nat.lt_of_succ_le hs6) g, hcA_push rfl rfl h, (fun g => by rcases g with g | g | g <;> cases g), (frP_p1 (Or.inl rfl) (frP_p2 (Or.inl (Or.inl rfl)) (frP_rf tr M)))⟩
    | inr k =>
      by_cases g : e64 (.inr k) = e64 up
      · have e : ag_do 19 y tbl he N s p (.inr k) up = (0, 0, N, s ++ [.inl 1], p) := by
          simp only [ag_do]
          rw [if_pos (e64_inj el eu g)]
        rw [e]
        exact ⟨_, c_pairs_19pe hn t8 (by omega) (by omega) (by omega) (by omega) tl tl1 tl2 tl3 hP.1 hP.2.1 hP.2.2 hcd hl el hu hd (show s.length < 6 from Nat.lt_of_succ_le hs6) g, hcA_push rfl rfl h, (fun g => by rcases g with g | g | g <;> cases g), (frP_p1 (Or.inl rfl) (frP_p2 (Or.inl (Or.inl rfl)) (frP_rf tr M)))⟩
      · have e : ag_do 19 y tbl he N s p (.inr k) up = (0, 0, N, s ++ [.inl 0], p) := by
          simp only [ag_do]
          rw [if_neg (fun q => g (by rw [q]))]
        rw [e]
        exact ⟨_, c_pairs_19pn hn t8 (by omega) (by omega) (by omega) (by omega) tl tl1 tl2 tl3 hP.1 hP.2.1 hP.2.2 hcd hl el hu hd (show s.length < 6 from Nat.lt_of_succ_le hs6) g, hcA_push rfl rfl h, (fun g => by rcases g with g | g | g <;> cases g), (frP_p1 (Or.inl rfl) (frP_p2 (Or.inl (Or.inl rfl)) (frP_rf tr M)))⟩
