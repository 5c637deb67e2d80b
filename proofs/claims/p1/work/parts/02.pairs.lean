/-! PAIRS, numbered in the order in which they are met: from the stack's bottom up, then what each has, first and second. A value is an int or a pair's number. -/
abbrev bf_V : Type := Int32 ⊕ Nat
def bf_see (ord : List Nat) (v : bf_V) : List Nat := match v with
  | .inl _ => ord
  | .inr k => if k ∈ ord then ord else ord ++ [k]
def bf_go (f : Nat → bf_V × bf_V) : Nat → Nat → List Nat → List Nat
  | 0, _, ord => ord
  | t + 1, k, ord => match ord[k]? with
    | none => ord
    | some q => bf_go f t (k + 1) (bf_see (bf_see ord (f q).1) (f q).2)
def bf_ord (f : Nat → bf_V × bf_V) (t : Nat) (stk : List bf_V) : List Nat := bf_go f t 0 (stk.foldl bf_see [])
def bf_map (g : Nat → Nat) (v : bf_V) : bf_V := match v with
  | .inl x => .inl x
  | .inr k => .inr (g k)
def bf_in (P : Nat → Prop) (v : bf_V) : Prop := match v with
  | .inl _ => True
  | .inr k => P k
def bf_inj (P : Nat → Prop) (g : Nat → Nat) : Prop := ∀ a b, P a → P b → g a = g b → a = b
theorem bf_see_in {P : Nat → Prop} {ord : List Nat} {v : bf_V} (ho : ∀ a ∈ ord, P a) (hv : bf_in P v) : ∀ a ∈ bf_see ord v, P a := by
  cases v with
  | inl y => exact ho
  | inr k =>
    intro a ha
    have ha : a ∈ (if k ∈ ord then ord else ord ++ [k]) := ha
    by_cases h : k ∈ ord
    · rw [if_pos h] at ha
      exact ho a ha
    · rw [if_neg h] at ha
      rcases List.mem_append.mp ha with h1 | h1
      · exact ho a h1
      · rw [List.mem_singleton.mp h1]
        exact hv
theorem bf_see_sub {ord : List Nat} {v : bf_V} : ∀ a ∈ ord, a ∈ bf_see ord v := by
  cases v with
  | inl y => exact fun a h => h
  | inr k =>
    intro a ha
    show a ∈ (if k ∈ ord then ord else ord ++ [k])
    by_cases h : k ∈ ord
    · rw [if_pos h]; exact ha
    · rw [if_neg h]; exact List.mem_append_left _ ha
theorem bf_see_has {ord : List Nat} {v : bf_V} : bf_in (fun k => k ∈ bf_see ord v) v := by
  cases v with
  | inl y => trivial
  | inr k =>
    show k ∈ (if k ∈ ord then ord else ord ++ [k])
    by_cases h : k ∈ ord
    · rw [if_pos h]; exact h
    · rw [if_neg h]; exact List.mem_append_right _ (List.mem_singleton.mpr rfl)
theorem bf_see_nodup {ord : List Nat} {v : bf_V} (h : ord.Nodup) : (bf_see ord v).Nodup := by
  cases v with
  | inl y => exact h
  | inr k =>
    show (if k ∈ ord then ord else ord ++ [k]).Nodup
    by_cases hk : k ∈ ord
    · rw [if_pos hk]; exact h
    · rw [if_neg hk, List.nodup_append]
      refine ⟨h, by simp, fun a ha b hb => ?_⟩
      rw [List.mem_singleton.mp hb]
      exact fun e => hk (e ▸ ha)
theorem bf_see_map {P : Nat → Prop} {g : Nat → Nat} {ord : List Nat} {v : bf_V} (hg : bf_inj P g) (ho : ∀ a ∈ ord, P a) (hv : bf_in P v) : bf_see (ord.map g) (bf_map g v) = (bf_see ord v).map g := by
  cases v with
  | inl y => rfl
  | inr k =>
    show (if g k ∈ ord.map g then ord.map g else ord.map g ++ [g k]) = (if k ∈ ord then ord else ord ++ [k]).map g
    by_cases h : k ∈ ord
    · rw [if_pos h, if_pos (List.mem_map.mpr ⟨k, h, rfl⟩)]
    · have h2 : ¬ g k ∈ ord.map g := fun q => by
        obtain ⟨a, ha, e⟩ := List.mem_map.mp q
        exact h (hg a k (ho a ha) hv e ▸ ha)
      rw [if_neg h, if_neg h2, List.map_append]
      rfl
theorem bf_fold_in {P : Nat → Prop} : ∀ (stk : List bf_V) (ord : List Nat), (∀ a ∈ ord, P a) → (∀ v ∈ stk, bf_in P v) → ∀ a ∈ stk.foldl bf_see ord, P a
  | [], _, ho, _ => ho
  | v :: t, ord, ho, hv => bf_fold_in t (bf_see ord v) (bf_see_in ho (hv v List.mem_cons_self)) (fun w hw => hv w (List.mem_cons_of_mem _ hw))
theorem bf_fold_map {P : Nat → Prop} {g : Nat → Nat} (hg : bf_inj P g) : ∀ (stk : List bf_V) (ord : List Nat), (∀ a ∈ ord, P a) → (∀ v ∈ stk, bf_in P v) → (stk.map (bf_map g)).foldl bf_see (ord.map g) = (stk.foldl bf_see ord).map g
  | [], _, _, _ => rfl
  | v :: t, ord, ho, hv => by
    show (t.map (bf_map g)).foldl bf_see (bf_see (ord.map g) (bf_map g v)) = (t.foldl bf_see (bf_see ord v)).map g
    rw [bf_see_map hg ho (hv v List.mem_cons_self)]
    exact bf_fold_map hg t (bf_see ord v) (bf_see_in ho (hv v List.mem_cons_self)) (fun w hw => hv w (List.mem_cons_of_mem _ hw))
theorem bf_go_map {P : Nat → Prop} {g : Nat → Nat} {f f' : Nat → bf_V × bf_V} (hg : bf_inj P g) (hf : ∀ a, P a → bf_in P (f a).1 ∧ bf_in P (f a).2) (hff : ∀ a, P a → (f' (g a)).1 = bf_map g (f a).1 ∧ (f' (g a)).2 = bf_map g (f a).2) :
    ∀ (t k : Nat) (ord : List Nat), (∀ a ∈ ord, P a) → bf_go f' t k (ord.map g) = (bf_go f t k ord).map g
  | 0, _, _, _ => rfl
  | t + 1, k, ord, ho => by
    show (match (ord.map g)[k]? with
      | none => ord.map g
      | some q => bf_go f' t (k + 1) (bf_see (bf_see (ord.map g) (f' q).1) (f' q).2)) = (match ord[k]? with
      | none => ord
      | some q => bf_go f t (k + 1) (bf_see (bf_see ord (f q).1) (f q).2)).map g
    rw [List.getElem?_map]
    cases hk : ord[k]? with
    | none => rfl
    | some q =>
      have hq : P q := ho q (List.mem_of_getElem? hk)
      show bf_go f' t (k + 1) (bf_see (bf_see (ord.map g) (f' (g q)).1) (f' (g q)).2) = (bf_go f t (k + 1) (bf_see (bf_see ord (f q).1) (f q).2)).map g
      have h1 := bf_see_in ho (hf q hq).1
      rw [(hff q hq).1, (hff q hq).2, bf_see_map hg ho (hf q hq).1, bf_see_map hg h1 (hf q hq).2]
      exact bf_go_map hg hf hff t (k + 1) _ (bf_see_in h1 (hf q hq).2)
theorem bf_go_in {P : Nat → Prop} {f : Nat → bf_V × bf_V} (hf : ∀ a, P a → bf_in P (f a).1 ∧ bf_in P (f a).2) : ∀ (t k : Nat) (ord : List Nat), (∀ a ∈ ord, P a) → ∀ a ∈ bf_go f t k ord, P a
  | 0, _, _, ho => ho
  | t + 1, k, ord, ho => by
    show ∀ a ∈ (match ord[k]? with
      | none => ord
      | some q => bf_go f t (k + 1) (bf_see (bf_see ord (f q).1) (f q).2)), P a
    cases hk : ord[k]? with
    | none => exact ho
    | some q =>
      have hq : P q := ho q (List.mem_of_getElem? hk)
      exact bf_go_in hf t (k + 1) _ (bf_see_in (bf_see_in ho (hf q hq).1) (hf q hq).2)
theorem bf_idx {P : Nat → Prop} {g : Nat → Nat} (hg : bf_inj P g) {k : Nat} (hk : P k) : ∀ (ord : List Nat), (∀ a ∈ ord, P a) → (ord.map g).idxOf (g k) = ord.idxOf k
  | [], _ => rfl
  | a :: t, ho => by
    rw [List.map_cons, List.idxOf_cons, List.idxOf_cons, bf_idx hg hk t (fun w hw => ho w (List.mem_cons_of_mem _ hw))]
    by_cases h : a = k
    · subst h
      simp
    · have h2 : ¬ g a = g k := fun q => h (hg a k (ho a List.mem_cons_self) hk q)
      have e1 : (a == k) = false := by simpa using h
      have e2 : (g a == g k) = false := by simpa using h2
      rw [e1, e2]
/-- the numbers as an image has them -/
def bf_ren (ord : List Nat) : bf_V → bf_V := bf_map (fun k => ord.idxOf k)
theorem bf_ren_map {P : Nat → Prop} {g : Nat → Nat} (hg : bf_inj P g) {ord : List Nat} (ho : ∀ a ∈ ord, P a) {v : bf_V} (hv : bf_in P v) : bf_ren (ord.map g) (bf_map g v) = bf_ren ord v := by
  cases v with
  | inl y => rfl
  | inr k => exact congrArg Sum.inr (bf_idx hg hv ord ho)
/-- an agent's stack and pairs, numbered anew -/
def bf_canS (f : Nat → bf_V × bf_V) (t : Nat) (stk : List bf_V) : List bf_V := stk.map (bf_ren (bf_ord f t stk))
def bf_canP (f : Nat → bf_V × bf_V) (t : Nat) (stk : List bf_V) : List (bf_V × bf_V) := (bf_ord f t stk).map (fun q => (bf_ren (bf_ord f t stk) (f q).1, bf_ren (bf_ord f t stk) (f q).2))
/-- two agents that differ by the numbers of their pairs alone are numbered alike -/
theorem bf_iso {P : Nat → Prop} {g : Nat → Nat} {f f' : Nat → bf_V × bf_V} {stk : List bf_V} (t : Nat) (hg : bf_inj P g) (hs : ∀ v ∈ stk, bf_in P v) (hf : ∀ a, P a → bf_in P (f a).1 ∧ bf_in P (f a).2) (hff : ∀ a, P a → (f' (g a)).1 = bf_map g (f a).1 ∧ (f' (g a)).2 = bf_map g (f a).2) :
    bf_canS f' t (stk.map (bf_map g)) = bf_canS f t stk ∧ bf_canP f' t (stk.map (bf_map g)) = bf_canP f t stk ∧ (bf_ord f' t (stk.map (bf_map g))).length = (bf_ord f t stk).length := by
  have h0 : ∀ a ∈ stk.foldl bf_see [], P a := bf_fold_in stk [] (fun a h => nomatch h) hs
  have e : bf_ord f' t (stk.map (bf_map g)) = (bf_ord f t stk).map g := by
    unfold bf_ord
    have e1 := bf_fold_map hg stk [] (fun a h => nomatch h) hs
    rw [show (List.map g ([] : List Nat)) = [] from rfl] at e1
    rw [e1]
    exact bf_go_map hg hf hff t 0 _ h0
  have ho : ∀ a ∈ bf_ord f t stk, P a := bf_go_in hf t 0 _ h0
  refine ⟨?_, ?_, ?_⟩
  · unfold bf_canS
    rw [e, List.map_map]
    apply List.map_congr_left
    intro v hv
    exact bf_ren_map hg ho (hs v hv)
  · unfold bf_canP
    rw [e, List.map_map]
    apply List.map_congr_left
    intro q hq
    have hq' := ho q hq
    show (bf_ren ((bf_ord f t stk).map g) (f' (g q)).1, bf_ren ((bf_ord f t stk).map g) (f' (g q)).2) = _
    rw [(hff q hq').1, (hff q hq').2, bf_ren_map hg ho (hf q hq').1, bf_ren_map hg ho (hf q hq').2]
  · rw [e, List.length_map]
