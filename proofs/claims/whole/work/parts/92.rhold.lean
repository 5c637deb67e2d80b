/-! WHAT THE REFERENCE'S AGENT HOLDS, under its own writes -/
def hr_G (M : fm_M) (r : Nat) (F : Nat → Prop) (A : ag_T) (g : Nat → Nat) : Prop := (∀ k, 1 ≤ k → k < 8 → F k → M.1 (604 + k) r = nI (A.1 k)) ∧ M.1 612 r = nI A.2.1.length ∧ (∀ a, a < A.2.2.length → g a < 9) ∧ bf_inj (fun a => a < A.2.2.length) g ∧ (∀ k v, A.2.1[k]? = some v → M.2.1 613 (6 * r + k) = e64 (bf_map g v)) ∧ (∀ k q, A.2.2[k]? = some q → M.2.1 615 (9 * r + g k) = e64 (bf_map g q.1) ∧ M.2.1 616 (9 * r + g k) = e64 (bf_map g q.2))
theorem hrG_num {M : fm_M} {r k v : Nat} {F : Nat → Prop} {N : Nat → Nat} {s : List bf_V} {p : List (bf_V × bf_V)} {g : Nat → Nat} (h1k : 1 ≤ k) (hk : k < 8) (h : hr_G M r F (N, s, p) g) : hr_G (fm_put1 M (604 + k) r (nI v)) r F (va_up N k v, s, p) g := by
  obtain ⟨h1, h2, h3, h4, h5, h6⟩ := h
  refine ⟨fun j hj1 hj hF => ?_, (p1_other (by omega)).trans h2, h3, h4, h5, h6⟩
  by_cases e : j = k
  · subst e
    rw [p1_same]
    show nI v = nI (va_up N j v j)
    rw [fm_upS]
  · rw [p1_other (by omega)]
    show M.1 (604 + j) r = nI (va_up N k v j)
    rw [fm_upN e]
    exact h1 j hj1 hj hF
theorem hrG_o1 {M : fm_M} {r o j : Nat} {v : Int32} {F : Nat → Prop} {A : ag_T} {g : Nat → Nat} (ho : (o < 605 ∨ 612 < o) ∨ j ≠ r) (h : hr_G M r F A g) : hr_G (fm_put1 M o j v) r F A g := by
  obtain ⟨h1, h2, h3, h4, h5, h6⟩ := h
  have key : ∀ q, 605 ≤ q → q ≤ 612 → (fm_put1 M o j v).1 q r = M.1 q r := by
    intro q g1 g2
    by_cases e : q = o
    · subst e
      exact p1_at (by omega)
    · exact p1_other e
  exact ⟨fun k a b c => (key _ (by omega) (by omega)).trans (h1 k a b c), (key _ (by decide) (by decide)).trans h2, h3, h4, h5, h6⟩
theorem hrG_take {M : fm_M} {r d : Nat} {F : Nat → Prop} {N : Nat → Nat} {s : List bf_V} {p : List (bf_V × bf_V)} {g : Nat → Nat} (hd : d ≤ s.length) (h : hr_G M r F (N, s, p) g) : hr_G (fm_put1 M 612 r (nI d)) r F (N, s.take d, p) g := by
  obtain ⟨h1, h2, h3, h4, h5, h6⟩ := h
  refine ⟨fun j a b c => (p1_other (by omega)).trans (h1 j a b c), ?_, h3, h4, fun j w hw => ?_, h6⟩
  · rw [p1_same]
    show nI d = nI (s.take d).length
    rw [List.length_take, Nat.min_eq_left hd]
  · have hw : (s.take d)[j]? = some w := hw
    rw [List.getElem?_take] at hw
    by_cases e : j < d
    · rw [if_pos e] at hw
      exact h5 j w hw
    · rw [if_neg e] at hw
      cases hw
theorem hrG_push {M : fm_M} {r d : Nat} {v64 : Int64} {v : bf_V} {F : Nat → Prop} {N : Nat → Nat} {s : List bf_V} {p : List (bf_V × bf_V)} {g : Nat → Nat} (hd : s.length = d) (hv : e64 (bf_map g v) = v64) (h : hr_G M r F (N, s, p) g) : hr_G (fm_put1 (fm_put2 M 613 (6 * r + d) v64) 612 r (nI (d + 1))) r F (N, s ++ [v], p) g := by
  obtain ⟨h1, h2, h3, h4, h5, h6⟩ := h
  refine ⟨fun j a b c => (p1_other (by omega)).trans (h1 j a b c), ?_, h3, h4, fun j w hw => ?_, fun j q hq => ⟨(p2_other (by decide)).trans (h6 j q hq).1, (p2_other (by decide)).trans (h6 j q hq).2⟩⟩
  · rw [p1_same]
    show nI (d + 1) = nI (s ++ [v]).length
    rw [List.length_append, hd]
    rfl
  · show (fm_put2 M 613 (6 * r + d) v64).2.1 613 (6 * r + j) = e64 (bf_map g w)
    have hw : (s ++ [v])[j]? = some w := hw
    by_cases e : j = d
    · subst e
      rw [p2_same]
      rw [List.getElem?_append_right (by omega), hd, Nat.sub_self] at hw
      cases hw
      exact hv.symm
    · have hlt : j < s.length := by
        have := (List.getElem?_eq_some_iff.mp hw).1
        simp at this
        omega
      rw [List.getElem?_append_left hlt] at hw
      rw [p2_at (by omega)]
      exact h5 j w hw
theorem hrG_set1 {M : fm_M} {r k : Nat} {u64 : Int64} {u : bf_V} {F : Nat → Prop} {N : Nat → Nat} {s : List bf_V} {p : List (bf_V × bf_V)} {g : Nat → Nat} (hk : k < p.length) (hu : e64 (bf_map g u) = u64) (h : hr_G M r F (N, s, p) g) : hr_G (fm_put2 M 615 (9 * r + g k) u64) r F (N, s, p.set k (u, (ag_fn p k).2)) g := by
  obtain ⟨h1, h2, h3, h4, h5, h6⟩ := h
  have hl : (p.set k (u, (ag_fn p k).2)).length = p.length := List.length_set
  refine ⟨h1, h2, fun a ha => h3 a (by rw [← hl]; exact ha), fun a c ha hc => h4 a c (by rw [← hl]; exact ha) (by rw [← hl]; exact hc), fun j w hw => (p2_other (by decide)).trans (h5 j w hw), fun j q hq => ?_⟩
  have hq : (p.set k (u, (ag_fn p k).2))[j]? = some q := hq
  by_cases e : j = k
  · subst e
    rw [List.getElem?_set_self hk] at hq
    cases hq
    refine ⟨(p2_same _ _ _ _).trans hu.symm, (p2_other (by decide)).trans (h6 j _ (fn_get hk)).2⟩
  · rw [List.getElem?_set_ne (Ne.symm e)] at hq
    have hj : j < p.length := (List.getElem?_eq_some_iff.mp hq).1
    have hg : g j ≠ g k := fun q => e (h4 j k hj hk q)
    exact ⟨(p2_at (by omega)).trans (h6 j q hq).1, (p2_other (by decide)).trans (h6 j q hq).2⟩
theorem hrG_set2 {M : fm_M} {r k : Nat} {u64 : Int64} {u : bf_V} {F : Nat → Prop} {N : Nat → Nat} {s : List bf_V} {p : List (bf_V × bf_V)} {g : Nat → Nat} (hk : k < p.length) (hu : e64 (bf_map g u) = u64) (h : hr_G M r F (N, s, p) g) : hr_G (fm_put2 M 616 (9 * r + g k) u64) r F (N, s, p.set k ((ag_fn p k).1, u)) g := by
  obtain ⟨h1, h2, h3, h4, h5, h6⟩ := h
  have hl : (p.set k ((ag_fn p k).1, u)).length = p.length := List.length_set
  refine ⟨h1, h2, fun a ha => h3 a (by rw [← hl]; exact ha), fun a c ha hc => h4 a c (by rw [← hl]; exact ha) (by rw [← hl]; exact hc), fun j w hw => (p2_other (by decide)).trans (h5 j w hw), fun j q hq => ?_⟩
  have hq : (p.set k ((ag_fn p k).1, u))[j]? = some q := hq
  by_cases e : j = k
  · subst e
    rw [List.getElem?_set_self hk] at hq
    cases hq
    refine ⟨(p2_other (by decide)).trans (h6 j _ (fn_get hk)).1, (p2_same _ _ _ _).trans hu.symm⟩
  · rw [List.getElem?_set_ne (Ne.symm e)] at hq
    have hj : j < p.length := (List.getElem?_eq_some_iff.mp hq).1
    have hg : g j ≠ g k := fun q => e (h4 j k hj hk q)
    exact ⟨(p2_other (by decide)).trans (h6 j q hq).1, (p2_at (by omega)).trans (h6 j q hq).2⟩
/-- all that the stack speaks of is met -/
theorem fold_has : ∀ (stk : List bf_V) (ord : List Nat) (v : bf_V), v ∈ stk → bf_in (fun k => k ∈ stk.foldl bf_see ord) v
  | [], _, _, h => nomatch h
  | w :: t, ord, v, h => by
    rcases List.mem_cons.mp h with rfl | h
    · have h1 : bf_in (fun k => k ∈ bf_see ord v) v := bf_see_has
      cases v with
      | inl y => trivial
      | inr k => exact pre_mem (fold_pre t (bf_see ord (.inr k))) h1
    · exact fold_has t (bf_see ord w) v h
theorem in_mono {P Q : Nat → Prop} (h : ∀ k, P k → Q k) {v : bf_V} (hv : bf_in P v) : bf_in Q v := by
  cases v with
  | inl y => trivial
  | inr k => exact h k hv
/-- what a met pair has is met too -/
theorem seq_closed {np : Nat} {f : Nat → bf_V × bf_V} {o0 : List Nat} (h8 : np ≤ 8) (hn : o0.Nodup) (ho : ∀ a ∈ o0, a < np) (hf : ∀ a, a < np → bf_in (fun k => k < np) (f a).1 ∧ bf_in (fun k => k < np) (f a).2) {i q : Nat} (hq : (bf_seq f o0 9)[i]? = some q) : bf_in (fun k => k ∈ bf_seq f o0 9) (f q).1 ∧ bf_in (fun k => k ∈ bf_seq f o0 9) (f q).2 := by
  obtain ⟨hL, -, hk⟩ := seq_endP h8 hn ho hf
  have hi := (List.getElem?_eq_some_iff.mp hq).1
  have hlt := hk i hi
  obtain ⟨q2, hq2⟩ : ∃ q2, (bf_seq f o0 i)[i]? = some q2 := ⟨_, List.getElem?_eq_getElem hlt⟩
  have hp := seq_pres f o0 i (9 - i)
  rw [show i + (9 - i) = 9 by omega] at hp
  have e := pre_get hp hq2
  rw [hq] at e
  cases e
  have hp1 := seq_pres f o0 (i + 1) (9 - (i + 1))
  rw [show i + 1 + (9 - (i + 1)) = 9 by omega, seq_some hq2] at hp1
  exact ⟨in_mono (fun k hk => pre_mem (pre_tr (see_pre _ _) hp1) hk) bf_see_has, in_mono (fun k hk => pre_mem hp1 hk) bf_see_has⟩
theorem get_idx {l : List Nat} {q : Nat} (h : q ∈ l) : l.getD (l.idxOf q) 0 = q := by
  have hi := List.idxOf_lt_length_of_mem h
  rw [List.getD_eq_getElem?_getD, List.getElem?_eq_getElem hi]
  exact List.getElem_idxOf hi
/-- numbered anew it is the same agent -/
theorem hrG_can {M : fm_M} {r : Nat} {F : Nat → Prop} {A : ag_T} {g : Nat → Nat} (ok : ag_ok A) (h : hr_G M r F A g) : ∃ g', hr_G M r F (ag_can A) g' := by
  obtain ⟨h1, h2, h3, h4, h5, h6⟩ := h
  obtain ⟨ok1, ok2, ok3, ok4⟩ := ok
  have eo : bf_ord (ag_fn A.2.2) 9 A.2.1 = bf_seq (ag_fn A.2.2) (A.2.1.foldl bf_see []) 9 := ord_seq _ _ _
  have ond : (A.2.1.foldl bf_see []).Nodup := fold_nodup A.2.1 [] (by simp)
  have oin : ∀ a ∈ A.2.1.foldl bf_see [], a < A.2.2.length := bf_fold_in A.2.1 [] (fun a h => nomatch h) ok3
  have iff : ∀ a, a < A.2.2.length → bf_in (fun k => k < A.2.2.length) (ag_fn A.2.2 a).1 ∧ bf_in (fun k => k < A.2.2.length) (ag_fn A.2.2 a).2 := fun a ha => ok4 _ (List.mem_of_getElem? (fn_get ha))
  have hcl := fun i q hq => seq_closed (i := i) (q := q) ok2 ond oin iff hq
  have hin := seq_in oin iff 9
  have hnd := seq_nodup (f := ag_fn A.2.2) ond 9
  have hst : ∀ v ∈ A.2.1, bf_in (fun k => k ∈ bf_seq (ag_fn A.2.2) (A.2.1.foldl bf_see []) 9) v := fun v hv => in_mono (fun k hk => by
    have hp := seq_pres (ag_fn A.2.2) (A.2.1.foldl bf_see []) 0 9
    rw [Nat.zero_add] at hp
    exact pre_mem hp hk) (fold_has A.2.1 [] v hv)
  rw [← eo] at hcl hin hnd hst
  generalize hO : bf_ord (ag_fn A.2.2) 9 A.2.1 = ORD at hcl hin hnd hst
  have em : ∀ v, bf_in (fun k => k ∈ ORD) v → bf_map (fun i => g (ORD.getD i 0)) (bf_ren ORD v) = bf_map g v := by
    intro v hv
    cases v with
    | inl y => rfl
    | inr q =>
      show Sum.inr (g (ORD.getD (ORD.idxOf q) 0)) = Sum.inr (g q)
      rw [get_idx hv]
  have eS : (ag_can A).2.1 = A.2.1.map (bf_ren ORD) := by
    show A.2.1.map (bf_ren (bf_ord (ag_fn A.2.2) 9 A.2.1)) = _
    rw [hO]
  have eP : (ag_can A).2.2 = ORD.map (fun q => (bf_ren ORD (ag_fn A.2.2 q).1, bf_ren ORD (ag_fn A.2.2 q).2)) := by
    show (bf_ord (ag_fn A.2.2) 9 A.2.1).map (fun q => (bf_ren (bf_ord (ag_fn A.2.2) 9 A.2.1) (ag_fn A.2.2 q).1, bf_ren (bf_ord (ag_fn A.2.2) 9 A.2.1) (ag_fn A.2.2 q).2)) = _
    rw [hO]
  have hget : ∀ i, i < ORD.length → ORD[i]? = some (ORD.getD i 0) ∧ ORD.getD i 0 ∈ ORD := by
    intro i hi
    have e : ORD[i]? = some ORD[i] := List.getElem?_eq_getElem hi
    have e2 : ORD.getD i 0 = ORD[i] := by rw [List.getD_eq_getElem?_getD, e]; rfl
    rw [e2]
    exact ⟨e, List.mem_of_getElem? e⟩
  refine ⟨fun i => g (ORD.getD i 0), h1, ?_, ?_, ?_, ?_, ?_⟩
  · rw [eS, List.length_map]
    exact h2
  · intro a ha
    rw [eP, List.length_map] at ha
    exact h3 _ (hin _ (hget a ha).2)
  · intro a c ha hc hac
    rw [eP, List.length_map] at ha hc
    have e := h4 _ _ (hin _ (hget a ha).2) (hin _ (hget c hc).2) hac
    have ea := (hget a ha).1
    have ec := (hget c hc).1
    rw [← e] at ec
    have h9 := (List.getElem?_inj ha hnd).mp (ea.trans ec.symm)
    exact h9
  · intro k w hw
    rw [eS, List.getElem?_map] at hw
    obtain ⟨v, hv, rfl⟩ := Option.map_eq_some_iff.mp hw
    rw [em v (hst v (List.mem_of_getElem? hv))]
    exact h5 k v hv
  · intro k q hq
    rw [eP, List.getElem?_map] at hq
    obtain ⟨t, ht, rfl⟩ := Option.map_eq_some_iff.mp hq
    have hk := (List.getElem?_eq_some_iff.mp ht).1
    have e : ORD.getD k 0 = t := by
      have := (hget k hk).1
      rw [ht] at this
      exact (Option.some.inj this).symm
    have htn := hin t (List.mem_of_getElem? ht)
    have h7 := h6 t _ (fn_get htn)
    have hc := hcl k t ht
    show M.2.1 615 (9 * r + g (ORD.getD k 0)) = _ ∧ M.2.1 616 (9 * r + g (ORD.getD k 0)) = _
    rw [e, em _ hc.1, em _ hc.2]
    exact h7
