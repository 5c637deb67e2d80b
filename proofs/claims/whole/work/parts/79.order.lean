/-! THE ORDER in which pairs are met, step by step -/
def bf_pre (a b : List Nat) : Prop := ∃ t, b = a ++ t
theorem pre_rf (a : List Nat) : bf_pre a a := ⟨[], (List.append_nil a).symm⟩
theorem pre_tr {a b c : List Nat} (h : bf_pre a b) (g : bf_pre b c) : bf_pre a c := by
  obtain ⟨t, rfl⟩ := h
  obtain ⟨u, rfl⟩ := g
  exact ⟨t ++ u, List.append_assoc _ _ _⟩
theorem pre_len {a b : List Nat} (h : bf_pre a b) : a.length ≤ b.length := by
  obtain ⟨t, rfl⟩ := h
  rw [List.length_append]
  omega
theorem pre_mem {a b : List Nat} (h : bf_pre a b) {k : Nat} (hk : k ∈ a) : k ∈ b := by
  obtain ⟨t, rfl⟩ := h
  exact List.mem_append_left _ hk
theorem pre_get {a b : List Nat} (h : bf_pre a b) {i k : Nat} (hk : a[i]? = some k) : b[i]? = some k := by
  obtain ⟨t, rfl⟩ := h
  rw [List.getElem?_append_left (List.getElem?_eq_some_iff.mp hk).1]
  exact hk
theorem pre_idx {a b : List Nat} (h : bf_pre a b) {k : Nat} (hk : k ∈ a) : b.idxOf k = a.idxOf k := by
  obtain ⟨t, rfl⟩ := h
  rw [List.idxOf_append, if_pos hk]
theorem see_pre (ord : List Nat) (v : bf_V) : bf_pre ord (bf_see ord v) := by
  cases v with
  | inl y => exact pre_rf ord
  | inr k =>
    show bf_pre ord (if k ∈ ord then ord else ord ++ [k])
    by_cases h : k ∈ ord
    · rw [if_pos h]; exact pre_rf ord
    · rw [if_neg h]; exact ⟨[k], rfl⟩
theorem ren_pre {a b : List Nat} (h : bf_pre a b) {v : bf_V} (hv : bf_in (fun k => k ∈ a) v) : bf_ren b v = bf_ren a v := by
  cases v with
  | inl y => rfl
  | inr k => exact congrArg Sum.inr (pre_idx h hv)
theorem fold_pre : ∀ (stk : List bf_V) (ord : List Nat), bf_pre ord (stk.foldl bf_see ord)
  | [], ord => pre_rf ord
  | v :: t, ord => pre_tr (see_pre ord v) (fold_pre t (bf_see ord v))
theorem fold_take {stk : List bf_V} {i : Nat} {v : bf_V} (h : stk[i]? = some v) : (stk.take (i + 1)).foldl bf_see [] = bf_see ((stk.take i).foldl bf_see []) v := by
  rw [List.take_add_one, h]
  show ((stk.take i) ++ [v]).foldl bf_see [] = _
  rw [List.foldl_append]
  rfl
theorem fold_take_pre (stk : List bf_V) (i : Nat) : bf_pre ((stk.take i).foldl bf_see []) (stk.foldl bf_see []) := by
  have e : stk.foldl bf_see [] = (stk.drop i).foldl bf_see ((stk.take i).foldl bf_see []) := by
    rw [← List.foldl_append, List.take_append_drop]
  rw [e]
  exact fold_pre _ _
def bf_seq (f : Nat → bf_V × bf_V) (o0 : List Nat) : Nat → List Nat
  | 0 => o0
  | k + 1 => match (bf_seq f o0 k)[k]? with
    | none => bf_seq f o0 k
    | some q => bf_see (bf_see (bf_seq f o0 k) (f q).1) (f q).2
theorem seq_none {f : Nat → bf_V × bf_V} {o0 : List Nat} {k : Nat} (h : (bf_seq f o0 k)[k]? = none) : bf_seq f o0 (k + 1) = bf_seq f o0 k := by
  show (match (bf_seq f o0 k)[k]? with
    | none => bf_seq f o0 k
    | some q => bf_see (bf_see (bf_seq f o0 k) (f q).1) (f q).2) = _
  rw [h]
theorem seq_some {f : Nat → bf_V × bf_V} {o0 : List Nat} {k q : Nat} (h : (bf_seq f o0 k)[k]? = some q) : bf_seq f o0 (k + 1) = bf_see (bf_see (bf_seq f o0 k) (f q).1) (f q).2 := by
  show (match (bf_seq f o0 k)[k]? with
    | none => bf_seq f o0 k
    | some q => bf_see (bf_see (bf_seq f o0 k) (f q).1) (f q).2) = _
  rw [h]
theorem seq_pre (f : Nat → bf_V × bf_V) (o0 : List Nat) (k : Nat) : bf_pre (bf_seq f o0 k) (bf_seq f o0 (k + 1)) := by
  cases h : (bf_seq f o0 k)[k]? with
  | none => rw [seq_none h]; exact pre_rf _
  | some q => rw [seq_some h]; exact pre_tr (see_pre _ _) (see_pre _ _)
theorem seq_pres (f : Nat → bf_V × bf_V) (o0 : List Nat) (k : Nat) : ∀ j, bf_pre (bf_seq f o0 k) (bf_seq f o0 (k + j))
  | 0 => pre_rf _
  | j + 1 => pre_tr (seq_pres f o0 k j) (seq_pre f o0 (k + j))
theorem seq_stop {f : Nat → bf_V × bf_V} {o0 : List Nat} {k : Nat} (h : (bf_seq f o0 k).length ≤ k) : ∀ j, bf_seq f o0 (k + j) = bf_seq f o0 k
  | 0 => rfl
  | j + 1 => by
    have ih := seq_stop h j
    have h2 : (bf_seq f o0 (k + j))[k + j]? = none := by
      rw [ih]
      exact List.getElem?_eq_none_iff.mpr (by omega)
    exact (seq_none h2).trans ih
theorem go_seq (f : Nat → bf_V × bf_V) (o0 : List Nat) : ∀ t k, bf_go f t k (bf_seq f o0 k) = bf_seq f o0 (k + t)
  | 0, k => rfl
  | t + 1, k => by
    show (match (bf_seq f o0 k)[k]? with
      | none => bf_seq f o0 k
      | some q => bf_go f t (k + 1) (bf_see (bf_see (bf_seq f o0 k) (f q).1) (f q).2)) = _
    cases h : (bf_seq f o0 k)[k]? with
    | none => exact (seq_stop (List.getElem?_eq_none_iff.mp h) (t + 1)).symm
    | some q =>
      show bf_go f t (k + 1) (bf_see (bf_see (bf_seq f o0 k) (f q).1) (f q).2) = _
      rw [← seq_some h, go_seq f o0 t (k + 1)]
      congr 1
      omega
theorem ord_seq (f : Nat → bf_V × bf_V) (t : Nat) (stk : List bf_V) : bf_ord f t stk = bf_seq f (stk.foldl bf_see []) t := by
  show bf_go f t 0 (bf_seq f (stk.foldl bf_see []) 0) = _
  rw [go_seq, Nat.zero_add]
/-- every number met is a good one, and none is met twice -/
theorem fold_nodup : ∀ (stk : List bf_V) (ord : List Nat), ord.Nodup → (stk.foldl bf_see ord).Nodup
  | [], _, h => h
  | v :: t, ord, h => fold_nodup t (bf_see ord v) (bf_see_nodup h)
theorem seq_nodup {f : Nat → bf_V × bf_V} {o0 : List Nat} (h : o0.Nodup) : ∀ k, (bf_seq f o0 k).Nodup
  | 0 => h
  | k + 1 => by
    cases hq : (bf_seq f o0 k)[k]? with
    | none => rw [seq_none hq]; exact seq_nodup h k
    | some q => rw [seq_some hq]; exact bf_see_nodup (bf_see_nodup (seq_nodup h k))
theorem seq_in {P : Nat → Prop} {f : Nat → bf_V × bf_V} {o0 : List Nat} (ho : ∀ a ∈ o0, P a) (hf : ∀ a, P a → bf_in P (f a).1 ∧ bf_in P (f a).2) : ∀ k, ∀ a ∈ bf_seq f o0 k, P a
  | 0 => ho
  | k + 1 => by
    cases hq : (bf_seq f o0 k)[k]? with
    | none => rw [seq_none hq]; exact seq_in ho hf k
    | some q =>
      have hP := seq_in ho hf k q (List.mem_of_getElem? hq)
      rw [seq_some hq]
      exact bf_see_in (bf_see_in (seq_in ho hf k) (hf q hP).1) (hf q hP).2
theorem few {n : Nat} {l : List Nat} (h : l.Nodup) (hl : ∀ a ∈ l, a < n) : l.length ≤ n := by
  have h2 := List.Nodup.length_le_of_subset h (l₂ := List.range n) (fun a ha => List.mem_range.mpr (hl a ha))
  rwa [List.length_range] at h2
/-- where the numbering of pairs below 8 ends -/
theorem seq_end {f : Nat → bf_V × bf_V} {o0 : List Nat} (hn : o0.Nodup) (ho : ∀ a ∈ o0, a < 8) (hf : ∀ a, a < 8 → bf_in (fun k => k < 8) (f a).1 ∧ bf_in (fun k => k < 8) (f a).2) : (bf_seq f o0 9).length ≤ 8 ∧ bf_seq f o0 (bf_seq f o0 9).length = bf_seq f o0 9 ∧ ∀ k, k < (bf_seq f o0 9).length → k < (bf_seq f o0 k).length := by
  have h8 : ∀ k, (bf_seq f o0 k).length ≤ 8 := fun k => few (seq_nodup hn k) (seq_in ho hf k)
  have hL := h8 9
  have hmono : (bf_seq f o0 (bf_seq f o0 9).length).length ≤ (bf_seq f o0 9).length := by
    have := pre_len (seq_pres f o0 (bf_seq f o0 9).length (9 - (bf_seq f o0 9).length))
    rwa [show (bf_seq f o0 9).length + (9 - (bf_seq f o0 9).length) = 9 by omega] at this
  refine ⟨hL, ?_, fun k hk => ?_⟩
  · have := seq_stop hmono (9 - (bf_seq f o0 9).length)
    rw [show (bf_seq f o0 9).length + (9 - (bf_seq f o0 9).length) = 9 by omega] at this
    exact this.symm
  · refine Nat.lt_of_not_le fun g => ?_
    have := seq_stop g (9 - k)
    rw [show k + (9 - k) = 9 by omega] at this
    rw [this] at hk
    omega
