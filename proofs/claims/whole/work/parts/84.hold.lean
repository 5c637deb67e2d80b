/-! WHAT A TRAVELLER HOLDS, under the processor's writes -/
/-- of the traveller tr and the processor's own cells alone something changes -/
def fr_P (tr : Nat) (M M' : fm_M) : Prop := M'.2.2 = M.2.2 ∧ (∀ o, o ≠ tr → (o < 60 ∨ 65 < o) → M'.1 o = M.1 o) ∧ (∀ o, o ≠ tr + 1 → o ≠ tr + 2 → o ≠ tr + 3 → (o < 60 ∨ 65 < o) → M'.2.1 o = M.2.1 o)
theorem frP_rf (tr : Nat) (M : fm_M) : fr_P tr M M := ⟨rfl, fun _ _ _ => rfl, fun _ _ _ _ _ => rfl⟩
theorem frP_tr {tr : Nat} {M M1 M2 : fm_M} (h : fr_P tr M M1) (g : fr_P tr M1 M2) : fr_P tr M M2 := ⟨g.1.trans h.1, fun o h1 h2 => (g.2.1 o h1 h2).trans (h.2.1 o h1 h2), fun o h1 h2 h3 h4 => (g.2.2 o h1 h2 h3 h4).trans (h.2.2 o h1 h2 h3 h4)⟩
theorem frP_p1 {tr : Nat} {M M1 : fm_M} {o k : Nat} {v : Int32} (ho : o = tr ∨ (60 ≤ o ∧ o ≤ 65)) (h : fr_P tr M M1) : fr_P tr M (fm_put1 M1 o k v) := frP_tr h ⟨rfl, fun q h1 h2 => by simp [fm_put1, va_up, show q ≠ o by omega], fun _ _ _ _ _ => rfl⟩
theorem frP_p2 {tr : Nat} {M M1 : fm_M} {o k : Nat} {v : Int64} (ho : (o = tr + 1 ∨ o = tr + 2 ∨ o = tr + 3) ∨ (60 ≤ o ∧ o ≤ 65)) (h : fr_P tr M M1) : fr_P tr M (fm_put2 M1 o k v) := frP_tr h ⟨rfl, fun _ _ _ => rfl, fun q h1 h2 h3 h4 => by simp [fm_put2, va_up, show q ≠ o by omega]⟩
theorem hcA_num {M : fm_M} {tr k v : Nat} {N : Nat → Nat} {s : List bf_V} {p : List (bf_V × bf_V)} (hk : k < 8) (h : hc_A M tr (N, s, p)) : hc_A (fm_put1 M tr k (nI v)) tr (va_up N k v, s, p) := by
  obtain ⟨h1, h2, h3, h4, h5⟩ := h
  refine ⟨fun j hj => ?_, (p1_at (by omega)).trans h2, (p1_at (by omega)).trans h3, h4, h5⟩
  by_cases e : j = k
  · subst e
    rw [p1_same]
    show nI v = nI (va_up N j v j)
    rw [fm_upS]
  · rw [p1_at e]
    show M.1 tr j = nI (va_up N k v j)
    rw [fm_upN e]
    exact h1 j hj
theorem hcA_o1 {M : fm_M} {tr o k : Nat} {v : Int32} {A : ag_T} (ho : tr ≠ o) (h : hc_A M tr A) : hc_A (fm_put1 M o k v) tr A := by
  obtain ⟨h1, h2, h3, h4, h5⟩ := h
  exact ⟨fun j hj => (p1_other ho).trans (h1 j hj), (p1_other ho).trans h2, (p1_other ho).trans h3, h4, h5⟩
theorem hcA_o2 {M : fm_M} {tr o k : Nat} {v : Int64} {A : ag_T} (h1o : tr + 1 ≠ o) (h2o : tr + 2 ≠ o) (h3o : tr + 3 ≠ o) (h : hc_A M tr A) : hc_A (fm_put2 M o k v) tr A := by
  obtain ⟨h1, h2, h3, h4, h5⟩ := h
  exact ⟨h1, h2, h3, fun j w hw => (p2_other h1o).trans (h4 j w hw), fun j q hq => ⟨(p2_other h2o).trans (h5 j q hq).1, (p2_other h3o).trans (h5 j q hq).2⟩⟩
/-- fewer on the stack -/
theorem hcA_take {M : fm_M} {tr d : Nat} {N : Nat → Nat} {s : List bf_V} {p : List (bf_V × bf_V)} (hd : d ≤ s.length) (h : hc_A M tr (N, s, p)) : hc_A (fm_put1 M tr 8 (nI d)) tr (N, s.take d, p) := by
  obtain ⟨h1, h2, h3, h4, h5⟩ := h
  refine ⟨fun j hj => (p1_at (by omega)).trans (h1 j hj), ?_, (p1_at (by omega)).trans h3, fun j w hw => ?_, h5⟩
  · rw [p1_same]
    show nI d = nI (s.take d).length
    rw [List.length_take, Nat.min_eq_left hd]
  · have hw : (s.take d)[j]? = some w := hw
    rw [List.getElem?_take] at hw
    by_cases e : j < d
    · rw [if_pos e] at hw
      exact h4 j w hw
    · rw [if_neg e] at hw
      cases hw
theorem hcA_push {M : fm_M} {tr d : Nat} {v64 : Int64} {v : bf_V} {N : Nat → Nat} {s : List bf_V} {p : List (bf_V × bf_V)} (hd : s.length = d) (hv : e64 v = v64) (h : hc_A M tr (N, s, p)) : hc_A (fm_put1 (fm_put2 M (tr + 1) d v64) tr 8 (nI (d + 1))) tr (N, s ++ [v], p) := by
  obtain ⟨h1, h2, h3, h4, h5⟩ := h
  refine ⟨fun j hj => (p1_at (by omega)).trans (h1 j hj), ?_, (p1_at (by omega)).trans h3, fun j w hw => ?_, fun j q hq => ⟨(p2_other (by omega)).trans (h5 j q hq).1, (p2_other (by omega)).trans (h5 j q hq).2⟩⟩
  · rw [p1_same]
    show nI (d + 1) = nI (s ++ [v]).length
    rw [List.length_append, hd]
    rfl
  · show (fm_put2 M (tr + 1) d v64).2.1 (tr + 1) j = e64 w
    have hw : (s ++ [v])[j]? = some w := hw
    by_cases e : j = d
    · subst e
      rw [p2_same]
      rw [List.getElem?_append_right (by omega), hd, Nat.sub_self] at hw
      cases hw
      exact hv.symm
    · have hlt : j < s.length := by
        have := (List.getElem?_eq_some_iff.mp hw).1
        simp at this
        omega
      rw [List.getElem?_append_left hlt] at hw
      rw [p2_at e]
      exact h4 j w hw
theorem hcA_pair {M : fm_M} {tr np : Nat} {p1 p2 : Int64} {a c : bf_V} {N : Nat → Nat} {s : List bf_V} {p : List (bf_V × bf_V)} (hp : p.length = np) (h1 : e64 a = p1) (h2 : e64 c = p2) (h : hc_A M tr (N, s, p)) : hc_A (fm_put1 (fm_put2 (fm_put2 M (tr + 2) np p1) (tr + 3) np p2) tr 9 (nI (np + 1))) tr (N, s, p ++ [(a, c)]) := by
  obtain ⟨g1, g2, g3, g4, g5⟩ := h
  refine ⟨fun j hj => (p1_at (by omega)).trans (g1 j hj), (p1_at (by omega)).trans g2, ?_, fun j w hw => ?_, fun j q hq => ?_⟩
  · rw [p1_same]
    show nI (np + 1) = nI (p ++ [(a, c)]).length
    rw [List.length_append, hp]
    rfl
  · show (fm_put2 (fm_put2 M (tr + 2) np p1) (tr + 3) np p2).2.1 (tr + 1) j = e64 w
    rw [p2_other (by omega), p2_other (by omega)]
    exact g4 j w hw
  · have hq : (p ++ [(a, c)])[j]? = some q := hq
    show (fm_put2 (fm_put2 M (tr + 2) np p1) (tr + 3) np p2).2.1 (tr + 2) j = e64 q.1 ∧ (fm_put2 (fm_put2 M (tr + 2) np p1) (tr + 3) np p2).2.1 (tr + 3) j = e64 q.2
    by_cases e : j = np
    · subst e
      rw [List.getElem?_append_right (by omega), hp, Nat.sub_self] at hq
      cases hq
      rw [p2_other (by omega), p2_same, p2_same]
      exact ⟨h1.symm, h2.symm⟩
    · have hlt : j < p.length := by
        have := (List.getElem?_eq_some_iff.mp hq).1
        simp at this
        omega
      rw [List.getElem?_append_left hlt] at hq
      rw [p2_other (by omega), p2_at e, p2_at e, p2_other (by omega)]
      exact g5 j q hq
theorem hcA_set1 {M : fm_M} {tr k : Nat} {u64 : Int64} {u : bf_V} {N : Nat → Nat} {s : List bf_V} {p : List (bf_V × bf_V)} (hu : e64 u = u64) (h : hc_A M tr (N, s, p)) : hc_A (fm_put2 M (tr + 2) k u64) tr (N, s, p.set k (u, (ag_fn p k).2)) := by
  obtain ⟨h1, h2, h3, h4, h5⟩ := h
  refine ⟨h1, h2, ?_, fun j w hw => (p2_other (by omega)).trans (h4 j w hw), fun j q hq => ?_⟩
  · show M.1 tr 9 = nI (p.set k _).length
    rw [List.length_set]
    exact h3
  · have hq : (p.set k (u, (ag_fn p k).2))[j]? = some q := hq
    by_cases e : j = k
    · subst e
      have hlt : j < p.length := by
        have := (List.getElem?_eq_some_iff.mp hq).1
        rwa [List.length_set] at this
      rw [List.getElem?_set_self hlt] at hq
      cases hq
      have hj : p[j]? = some p[j] := List.getElem?_eq_getElem hlt
      refine ⟨(p2_same _ _ _ _).trans hu.symm, (p2_other (by omega)).trans ?_⟩
      have e2 : (ag_fn p j).2 = p[j].2 := by
        unfold ag_fn
        rw [List.getD_eq_getElem?_getD, hj]
        rfl
      show M.2.1 (tr + 3) j = e64 (ag_fn p j).2
      rw [e2]
      exact (h5 j p[j] hj).2
    · rw [List.getElem?_set_ne (Ne.symm e)] at hq
      exact ⟨(p2_at e).trans (h5 j q hq).1, (p2_other (by omega)).trans (h5 j q hq).2⟩
theorem hcA_set2 {M : fm_M} {tr k : Nat} {u64 : Int64} {u : bf_V} {N : Nat → Nat} {s : List bf_V} {p : List (bf_V × bf_V)} (hu : e64 u = u64) (h : hc_A M tr (N, s, p)) : hc_A (fm_put2 M (tr + 3) k u64) tr (N, s, p.set k ((ag_fn p k).1, u)) := by
  obtain ⟨h1, h2, h3, h4, h5⟩ := h
  refine ⟨h1, h2, ?_, fun j w hw => (p2_other (by omega)).trans (h4 j w hw), fun j q hq => ?_⟩
  · show M.1 tr 9 = nI (p.set k _).length
    rw [List.length_set]
    exact h3
  · have hq : (p.set k ((ag_fn p k).1, u))[j]? = some q := hq
    by_cases e : j = k
    · subst e
      have hlt : j < p.length := by
        have := (List.getElem?_eq_some_iff.mp hq).1
        rwa [List.length_set] at this
      rw [List.getElem?_set_self hlt] at hq
      cases hq
      have hj : p[j]? = some p[j] := List.getElem?_eq_getElem hlt
      refine ⟨(p2_other (by omega)).trans ?_, (p2_same _ _ _ _).trans hu.symm⟩
      have e2 : (ag_fn p j).1 = p[j].1 := by
        unfold ag_fn
        rw [List.getD_eq_getElem?_getD, hj]
        rfl
      show M.2.1 (tr + 2) j = e64 (ag_fn p j).1
      rw [e2]
      exact (h5 j p[j] hj).1
    · rw [List.getElem?_set_ne (Ne.symm e)] at hq
      exact ⟨(p2_other (by omega)).trans (h5 j q hq).1, (p2_at e).trans (h5 j q hq).2⟩
/-- the numbering makes of it the agent as an image has it -/
theorem hcA_rn {M M' : fm_M} {tr : Nat} {A : ag_T} (t8 : 70 ≤ tr) (h : hc_A M tr A) (g : rn_P tr A.2.1 (ag_fn A.2.2) (bf_seq (ag_fn A.2.2) (A.2.1.foldl bf_see []) 9) M M') : hc_A M' tr (ag_can A) := by
  obtain ⟨h1, h2, h3, h4, h5⟩ := h
  obtain ⟨g1, g2, g3, g4, g5, g6⟩ := g
  have eo : bf_ord (ag_fn A.2.2) 9 A.2.1 = bf_seq (ag_fn A.2.2) (A.2.1.foldl bf_see []) 9 := ord_seq _ _ _
  refine ⟨fun j hj => (g5 tr j (by omega) (by omega) (by omega) (fun e => by omega)).trans (h1 j hj), ?_, ?_, fun j w hw => ?_, fun j q hq => ?_⟩
  · rw [g5 tr 8 (by omega) (by omega) (by omega) (fun e => by omega), h2]
    show nI A.2.1.length = nI (A.2.1.map _).length
    rw [List.length_map]
  · rw [g1, ← eo]
    show nI (bf_ord (ag_fn A.2.2) 9 A.2.1).length = nI ((bf_ord (ag_fn A.2.2) 9 A.2.1).map _).length
    rw [List.length_map]
  · have hw : (A.2.1.map (bf_ren (bf_ord (ag_fn A.2.2) 9 A.2.1)))[j]? = some w := hw
    rw [List.getElem?_map] at hw
    obtain ⟨v, hv, rfl⟩ := Option.map_eq_some_iff.mp hw
    rw [eo]
    exact g2 j v hv
  · have hq : ((bf_ord (ag_fn A.2.2) 9 A.2.1).map (fun q => (bf_ren (bf_ord (ag_fn A.2.2) 9 A.2.1) (ag_fn A.2.2 q).1, bf_ren (bf_ord (ag_fn A.2.2) 9 A.2.1) (ag_fn A.2.2 q).2)))[j]? = some q := hq
    rw [List.getElem?_map] at hq
    obtain ⟨r, hr, rfl⟩ := Option.map_eq_some_iff.mp hq
    rw [eo] at hr ⊢
    exact g3 j r hr
/-- an agent without pairs is numbered already -/
theorem can_nil {A : ag_T} (h0 : A.2.2 = []) (hs : ∀ v ∈ A.2.1, ag_in 0 v) : ag_can A = A := by
  obtain ⟨N, s, p⟩ := A
  have h0 : p = [] := h0
  subst h0
  have hs : ∀ v ∈ s, ag_in 0 v := hs
  have e1 : ∀ (t : List bf_V) (o : List Nat), (∀ v ∈ t, ag_in 0 v) → t.foldl bf_see o = o := by
    intro t
    induction t with
    | nil => intro o _; rfl
    | cons v t ih =>
      intro o ht
      have hv := ht v List.mem_cons_self
      cases v with
      | inl y => exact ih o (fun w hw => ht w (List.mem_cons_of_mem _ hw))
      | inr k => exact absurd hv (Nat.not_lt_zero k)
  have eo : bf_ord (ag_fn []) 9 s = [] := by
    unfold bf_ord
    rw [e1 s [] hs]
    rfl
  show (N, bf_canS (ag_fn []) 9 s, bf_canP (ag_fn []) 9 s) = (N, s, [])
  unfold bf_canS bf_canP
  rw [eo]
  refine Prod.ext rfl (Prod.ext ?_ rfl)
  show s.map (bf_ren []) = s
  refine (List.map_congr_left (g := id) fun v hv => ?_).trans (List.map_id s)
  have h := hs v hv
  cases v with
  | inl y => rfl
  | inr k => exact absurd h (Nat.not_lt_zero k)
