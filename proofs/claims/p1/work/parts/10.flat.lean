/-! FLAT MEMORY. The cells that the run makes have ids 8, 9, .. in the order of their making; id o is the cell b + (o - 8). Ids 0 .. 7 lie outside (the script, tables of statics). A memory holds, by id and place, ints, longs and references (ids again). -/
abbrev fm_M : Type := (Nat → Nat → Int32) × (Nat → Nat → Int64) × (Nat → Nat → Option Nat)
def fm_ad (b : Nat) (x : Nat → Nat) (o : Nat) : Nat := if o < 8 then x o else b + (o - 8)
theorem fm_ad_in {b : Nat} {x : Nat → Nat} {o : Nat} (h : 8 ≤ o) : fm_ad b x o = b + (o - 8) := if_neg (by omega)
/-- a value of the small machine as the machine has it -/
def fm_v (ad : Nat → Nat) : Value → Value
  | .ref o => .ref (ad o)
  | .int v => .int v
  | .long v => .long v
  | .float v => .float v
  | .double v => .double v
  | .null => .null
  | .retAddr v => .retAddr v
theorem fm_v_cat (ad : Nat → Nat) (v : Value) : (fm_v ad v).category = v.category := by cases v <;> rfl
def fm_lv (ad : Nat → Nat) (lv : List (Nat × Value)) : List (Nat × Value) := lv.map (fun q => (q.1, fm_v ad q.2))
def fm_lk (lv : List (Nat × Value)) (i : Nat) : Option Value := (lv.find? (fun q => q.1 == i)).map (fun q => q.2)
def fm_s1 (lv : List (Nat × Value)) (i : Nat) (v : Value) : List (Nat × Value) := (i, v) :: lv.filter (fun q => !(q.1 == i) && !(q.1 + 1 == i && q.2.category == 2))
def fm_s2 (lv : List (Nat × Value)) (i : Nat) (v : Value) : List (Nat × Value) := (i, v) :: lv.filter (fun q => !(q.1 == i) && (!(q.1 == i + 1) && !(q.1 + 1 == i && q.2.category == 2)))
theorem fm_lv_filter (ad : Nat → Nat) (lv : List (Nat × Value)) (f g : Nat × Value → Bool) (h : ∀ q, g (q.1, fm_v ad q.2) = f q) : (fm_lv ad lv).filter g = fm_lv ad (lv.filter f) := by
  induction lv with
  | nil => rfl
  | cons a t ih =>
    have e : fm_lv ad (a :: t) = (a.1, fm_v ad a.2) :: fm_lv ad t := rfl
    rw [e, List.filter_cons, List.filter_cons, h a]
    by_cases ha : f a = true
    · rw [if_pos ha, if_pos ha, ih]; rfl
    · rw [if_neg ha, if_neg ha, ih]
theorem fm_s1_lv (ad : Nat → Nat) (lv : List (Nat × Value)) (i : Nat) (v : Value) : (i, fm_v ad v) :: (fm_lv ad lv).filter (fun q => !(q.1 == i) && !(q.1 + 1 == i && q.2.category == 2)) = fm_lv ad (fm_s1 lv i v) := by
  rw [fm_lv_filter ad lv (fun q => !(q.1 == i) && !(q.1 + 1 == i && q.2.category == 2)) _ (fun q => by rw [fm_v_cat])]
  rfl
theorem fm_s2_lv (ad : Nat → Nat) (lv : List (Nat × Value)) (i : Nat) (v : Value) : (i, fm_v ad v) :: (fm_lv ad lv).filter (fun q => !(q.1 == i) && (!(q.1 == i + 1) && !(q.1 + 1 == i && q.2.category == 2))) = fm_lv ad (fm_s2 lv i v) := by
  rw [fm_lv_filter ad lv (fun q => !(q.1 == i) && (!(q.1 == i + 1) && !(q.1 + 1 == i && q.2.category == 2))) _ (fun q => by rw [fm_v_cat])]
  rfl
theorem fm_lk_mem {lv : List (Nat × Value)} {i : Nat} {v : Value} (h : fm_lk lv i = some v) : (i, v) ∈ lv := by
  unfold fm_lk at h
  cases hf : lv.find? (fun q => q.1 == i) with
  | none => rw [hf] at h; cases h
  | some q =>
    rw [hf] at h
    cases h
    have h1 := List.find?_some hf
    have h2 := List.mem_of_find?_eq_some hf
    obtain ⟨a, w⟩ := q
    have h3 : a = i := by simpa using h1
    subst h3
    exact h2
theorem fm_at {ad : Nat → Nat} {ls : Array Slot} {nL : Nat} {lv : List (Nat × Value)} {i : Nat} {v : Value} (h : lv_has ls nL (fm_lv ad lv)) (hl : fm_lk lv i = some v) : ls[i]? = some (.val (fm_v ad v)) :=
  h.2.2 (i, fm_v ad v) (List.mem_map.mpr ⟨(i, v), fm_lk_mem hl, rfl⟩)
theorem fm_idx {ad : Nat → Nat} {lv : List (Nat × Value)} {i : Nat} {v : Value} (hl : fm_lk lv i = some v) : ∃ k : Nat, (fm_lv ad lv)[k]? = some (i, fm_v ad v) := List.getElem?_of_mem (List.mem_map.mpr ⟨(i, v), fm_lk_mem hl, rfl⟩)
/-- fewer locals -/
theorem fm_lv_sub {ad : Nat → Nat} {ls : Array Slot} {nL : Nat} {lv lv' : List (Nat × Value)} (h : lv_has ls nL (fm_lv ad lv)) (hs : ∀ q ∈ lv', q ∈ lv) : lv_has ls nL (fm_lv ad lv') :=
  ⟨h.1, h.2.1, fun q hq => by
    obtain ⟨r, hr, rfl⟩ := List.mem_map.mp hq
    exact h.2.2 _ (List.mem_map.mpr ⟨r, hs r hr, rfl⟩)⟩
/-- a field's value, by its kind: 0 an int (or a boolean), 1 a long, else a reference -/
def fm_fv (fk : Nat → Nat → Nat) (ad : Nat → Nat) (M : fm_M) (ci o j : Nat) : Value :=
  match fk ci j with
  | 0 => .int (M.1 o j)
  | 1 => .long (M.2.1 o j)
  | _ => va_rf ((M.2.2 o j).map ad)
/-- what a cell is: kind below 100: an object of that class; 100 .. 109: an array of ints of some width; 110 .. 119: of longs; from 120 on: of references -/
def fm_cell (lay : Nat → Nat × Nat) (nf : Nat → Nat) (fk : Nat → Nat → Nat) (ad : Nat → Nat) (dA : Nat → ClassId) (M : fm_M) (o : Nat) : va_E :=
  if (lay o).1 < 100 then .inr ((lay o).1, (List.range (nf (lay o).1)).map (fm_fv fk ad M (lay o).1 o))
  else if (lay o).1 < 110 then .inl (dA (lay o).1, (lay o).2, .inl (M.1 o))
  else if (lay o).1 < 120 then .inl (dA (lay o).1, (lay o).2, .inr (.inl (M.2.1 o)))
  else .inl (dA (lay o).1, (lay o).2, .inr (.inr (.inr (.inr (fun j => (M.2.2 o j).map ad)))))
def fm_ws (lay : Nat → Nat × Nat) (nf : Nat → Nat) (fk : Nat → Nat → Nat) (b : Nat) (x : Nat → Nat) (dA : Nat → ClassId) (n : Nat) (M : fm_M) : va_W :=
  (List.range (n - 8)).map (fun i => (b + i, fm_cell lay nf fk (fm_ad b x) dA M (8 + i)))
theorem fm_ws_at {lay : Nat → Nat × Nat} {nf : Nat → Nat} {fk : Nat → Nat → Nat} {b : Nat} {x : Nat → Nat} {dA : Nat → ClassId} {n : Nat} {M : fm_M} {o : Nat} (h8 : 8 ≤ o) (hn : o < n) :
    (fm_ws lay nf fk b x dA n M)[o - 8]? = some (fm_ad b x o, fm_cell lay nf fk (fm_ad b x) dA M o) := by
  unfold fm_ws
  rw [List.getElem?_map, List.getElem?_range (by omega), fm_ad_in h8]
  show some (b + (o - 8), fm_cell lay nf fk (fm_ad b x) dA M (8 + (o - 8))) = _
  rw [show 8 + (o - 8) = o by omega]
def fm_A (b : Nat) : Nat → Prop := fun q => b ≤ q
theorem fm_ws_D {lay : Nat → Nat × Nat} {nf : Nat → Nat} {fk : Nat → Nat → Nat} {b : Nat} {x : Nat → Nat} {dA : Nat → ClassId} {n : Nat} {M : fm_M} : va_D (fm_A b) (fm_ws lay nf fk b x dA n M) := by
  have key : ∀ (i : Nat) (q : Nat × va_E), (fm_ws lay nf fk b x dA n M)[i]? = some q → q.1 = b + i := by
    intro i q h
    unfold fm_ws at h
    rw [List.getElem?_map] at h
    cases hr : (List.range (n - 8))[i]? with
    | none => rw [hr] at h; cases h
    | some j =>
      rw [hr] at h
      have hlt : i < (List.range (n - 8)).length := (List.getElem?_eq_some_iff.mp hr).1
      have hj : j = i := by
        have h2 := (List.getElem?_eq_some_iff.mp hr).2
        simpa using h2.symm
      subst hj
      cases h
      rfl
  refine ⟨fun i j p q hi hj hpq => ?_, fun k q hk => ?_⟩
  · have h1 := key i p hi
    have h2 := key j q hj
    omega
  · show b ≤ q.1
    rw [key k q hk]
    omega
/-- one cell of a world has changed -/
theorem fm_ws_set {lay : Nat → Nat × Nat} {nf : Nat → Nat} {fk : Nat → Nat → Nat} {b : Nat} {x : Nat → Nat} {dA : Nat → ClassId} {n : Nat} {M M' : fm_M} {o : Nat} (h8 : 8 ≤ o) (hn : o < n) {E : va_E} (hE : fm_cell lay nf fk (fm_ad b x) dA M' o = E)
    (ho : ∀ q, 8 ≤ q → q ≠ o → fm_cell lay nf fk (fm_ad b x) dA M' q = fm_cell lay nf fk (fm_ad b x) dA M q) : (fm_ws lay nf fk b x dA n M).set (o - 8) (fm_ad b x o, E) = fm_ws lay nf fk b x dA n M' := by
  apply List.ext_getElem?
  intro i
  rw [List.getElem?_set]
  by_cases hi : o - 8 = i
  · subst hi
    rw [if_pos rfl, fm_ws_at h8 hn, hE]
    have : o - 8 < (fm_ws lay nf fk b x dA n M).length := by simp [fm_ws]; omega
    rw [if_pos this]
  · rw [if_neg hi]
    unfold fm_ws
    rw [List.getElem?_map, List.getElem?_map]
    cases hr : (List.range (n - 8))[i]? with
    | none => rfl
    | some j =>
      have hj : j = i := by
        have h2 := (List.getElem?_eq_some_iff.mp hr).2
        simpa using h2.symm
      subst hj
      show some (b + j, fm_cell lay nf fk (fm_ad b x) dA M (8 + j)) = some (b + j, fm_cell lay nf fk (fm_ad b x) dA M' (8 + j))
      rw [ho (8 + j) (by omega) (by omega)]
