/-! NUMBERED ANEW an agent is as it was -/
/-- what the order of pairs is good for -/
theorem ord_facts {A : ag_T} (ok : ag_ok A) : (bf_ord (ag_fn A.2.2) 9 A.2.1).Nodup ∧ (∀ a ∈ bf_ord (ag_fn A.2.2) 9 A.2.1, a < A.2.2.length) ∧ (∀ v ∈ A.2.1, bf_in (fun k => k ∈ bf_ord (ag_fn A.2.2) 9 A.2.1) v) ∧ (∀ a ∈ bf_ord (ag_fn A.2.2) 9 A.2.1, bf_in (fun k => k ∈ bf_ord (ag_fn A.2.2) 9 A.2.1) (ag_fn A.2.2 a).1 ∧ bf_in (fun k => k ∈ bf_ord (ag_fn A.2.2) 9 A.2.1) (ag_fn A.2.2 a).2) := by
  obtain ⟨ok1, ok2, ok3, ok4⟩ := ok
  have eo : bf_ord (ag_fn A.2.2) 9 A.2.1 = bf_seq (ag_fn A.2.2) (A.2.1.foldl bf_see []) 9 := ord_seq _ _ _
  have ond : (A.2.1.foldl bf_see []).Nodup := fold_nodup A.2.1 [] (by simp)
  have oin : ∀ a ∈ A.2.1.foldl bf_see [], a < A.2.2.length := bf_fold_in A.2.1 [] (fun a h => nomatch h) ok3
  have iff : ∀ a, a < A.2.2.length → bf_in (fun k => k < A.2.2.length) (ag_fn A.2.2 a).1 ∧ bf_in (fun k => k < A.2.2.length) (ag_fn A.2.2 a).2 := fun a ha => ok4 _ (List.mem_of_getElem? (fn_get ha))
  have hcl := fun i q hq => seq_closed (i := i) (q := q) ok2 ond oin iff hq
  have hin := seq_in oin iff 9
  have hnd := seq_nodup (f := ag_fn A.2.2) ond 9
  have hst : ∀ v ∈ A.2.1, bf_in (fun k => k ∈ bf_seq (ag_fn A.2.2) (A.2.1.foldl bf_see []) 9) v := fun v hv => in_mono (fun k hk => by
    have hp := seq_pres (ag_fn A.2.2) (A.2.1.foldl bf_see []) 0 9
    rw [Nat.zero_add] at hp
    exact pre_mem hp hk) (fold_has A.2.1 [] v hv)
  rw [eo]
  refine ⟨hnd, hin, hst, fun a ha => ?_⟩
  obtain ⟨i, hi⟩ := List.getElem?_of_mem ha
  exact hcl i a hi
theorem can_ok {A : ag_T} (ok : ag_ok A) : ag_ok (ag_can A) := by
  obtain ⟨f1, f2, f3, f4⟩ := ord_facts ok
  obtain ⟨ok1, ok2, -, -⟩ := ok
  have eL : (ag_can A).2.2.length = (bf_ord (ag_fn A.2.2) 9 A.2.1).length := List.length_map _
  have ren : ∀ v, bf_in (fun k => k ∈ bf_ord (ag_fn A.2.2) 9 A.2.1) v → ag_in (ag_can A).2.2.length (bf_ren (bf_ord (ag_fn A.2.2) 9 A.2.1) v) := by
    intro v hv
    rw [eL]
    cases v with
    | inl y => trivial
    | inr k => exact List.idxOf_lt_length_of_mem hv
  refine ⟨?_, ?_, fun w hw => ?_, fun q hq => ?_⟩
  · show (A.2.1.map _).length ≤ 6
    rw [List.length_map]
    exact ok1
  · rw [eL]
    exact Nat.le_trans (few f1 f2) ok2
  · obtain ⟨v, hv, rfl⟩ := List.mem_map.mp (show w ∈ A.2.1.map (bf_ren (bf_ord (ag_fn A.2.2) 9 A.2.1)) from hw)
    exact ren v (f3 v hv)
  · obtain ⟨t, ht, rfl⟩ := List.mem_map.mp (show q ∈ (bf_ord (ag_fn A.2.2) 9 A.2.1).map (fun q => (bf_ren (bf_ord (ag_fn A.2.2) 9 A.2.1) (ag_fn A.2.2 q).1, bf_ren (bf_ord (ag_fn A.2.2) 9 A.2.1) (ag_fn A.2.2 q).2)) from hq)
    exact ⟨ren _ (f4 t ht).1, ren _ (f4 t ht).2⟩
theorem can_can {A : ag_T} (ok : ag_ok A) : ag_can (ag_can A) = ag_can A := by
  obtain ⟨f1, f2, f3, f4⟩ := ord_facts ok
  have hg : bf_inj (fun k => k ∈ bf_ord (ag_fn A.2.2) 9 A.2.1) (fun k => (bf_ord (ag_fn A.2.2) 9 A.2.1).idxOf k) := by
    intro a c ha hc e
    have e : (bf_ord (ag_fn A.2.2) 9 A.2.1).idxOf a = (bf_ord (ag_fn A.2.2) 9 A.2.1).idxOf c := e
    rw [← get_idx ha, ← get_idx hc, e]
  have hff : ∀ a, a ∈ bf_ord (ag_fn A.2.2) 9 A.2.1 → (ag_fn (ag_can A).2.2 ((bf_ord (ag_fn A.2.2) 9 A.2.1).idxOf a)).1 = bf_map (fun k => (bf_ord (ag_fn A.2.2) 9 A.2.1).idxOf k) (ag_fn A.2.2 a).1 ∧ (ag_fn (ag_can A).2.2 ((bf_ord (ag_fn A.2.2) 9 A.2.1).idxOf a)).2 = bf_map (fun k => (bf_ord (ag_fn A.2.2) 9 A.2.1).idxOf k) (ag_fn A.2.2 a).2 := by
    intro a ha
    have hi := List.idxOf_lt_length_of_mem ha
    have e : (bf_ord (ag_fn A.2.2) 9 A.2.1)[(bf_ord (ag_fn A.2.2) 9 A.2.1).idxOf a]? = some a := by
      rw [List.getElem?_eq_getElem hi, List.getElem_idxOf]
    have e2 : (ag_can A).2.2[(bf_ord (ag_fn A.2.2) 9 A.2.1).idxOf a]? = some (bf_ren (bf_ord (ag_fn A.2.2) 9 A.2.1) (ag_fn A.2.2 a).1, bf_ren (bf_ord (ag_fn A.2.2) 9 A.2.1) (ag_fn A.2.2 a).2) := by
      show ((bf_ord (ag_fn A.2.2) 9 A.2.1).map (fun q => (bf_ren (bf_ord (ag_fn A.2.2) 9 A.2.1) (ag_fn A.2.2 q).1, bf_ren (bf_ord (ag_fn A.2.2) 9 A.2.1) (ag_fn A.2.2 q).2)))[(bf_ord (ag_fn A.2.2) 9 A.2.1).idxOf a]? = _
      rw [List.getElem?_map, e]
      rfl
    have e3 : ag_fn (ag_can A).2.2 ((bf_ord (ag_fn A.2.2) 9 A.2.1).idxOf a) = (bf_ren (bf_ord (ag_fn A.2.2) 9 A.2.1) (ag_fn A.2.2 a).1, bf_ren (bf_ord (ag_fn A.2.2) 9 A.2.1) (ag_fn A.2.2 a).2) := by
      unfold ag_fn
      rw [List.getD_eq_getElem?_getD]
      exact congrArg (fun t => Option.getD t (.inl 0, .inl 0)) e2
    rw [e3]
    exact ⟨rfl, rfl⟩
  obtain ⟨k1, k2, -⟩ := bf_iso (P := fun k => k ∈ bf_ord (ag_fn A.2.2) 9 A.2.1) (f' := ag_fn (ag_can A).2.2) 9 hg f3 f4 hff
  show (A.1, bf_canS (ag_fn (ag_can A).2.2) 9 (ag_can A).2.1, bf_canP (ag_fn (ag_can A).2.2) 9 (ag_can A).2.1) = (A.1, bf_canS (ag_fn A.2.2) 9 A.2.1, bf_canP (ag_fn A.2.2) 9 A.2.1)
  have k1 : bf_canS (ag_fn (ag_can A).2.2) 9 (ag_can A).2.1 = bf_canS (ag_fn A.2.2) 9 A.2.1 := k1
  have k2 : bf_canP (ag_fn (ag_can A).2.2) 9 (ag_can A).2.1 = bf_canP (ag_fn A.2.2) 9 A.2.1 := k2
  rw [k1, k2]
