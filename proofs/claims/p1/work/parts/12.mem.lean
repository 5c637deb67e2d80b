/-! RULES of memory: fields and arrays -/
theorem fm_map_set {α : Type} {f g : Nat → α} {N k : Nat} {v : α} (hk : g k = v) (ho : ∀ j, j ≠ k → g j = f j) : ((List.range N).map f).set k v = (List.range N).map g := by
  apply List.ext_getElem?
  intro i
  rw [List.getElem?_set, List.getElem?_map, List.getElem?_map, List.length_map, List.length_range]
  by_cases hi : k = i
  · subst hi
    rw [if_pos rfl]
    by_cases hl : k < N
    · rw [if_pos hl, List.getElem?_range hl]
      exact congrArg some hk.symm
    · rw [if_neg hl, List.getElem?_eq_none (by simp; omega)]
      rfl
  · rw [if_neg hi]
    cases hr : (List.range N)[i]? with
    | none => rfl
    | some j =>
      have hj : j = i := by
        have h2 := (List.getElem?_eq_some_iff.mp hr).2
        simpa using h2.symm
      subst hj
      show some (f j) = some (g j)
      rw [ho j (fun q => hi q.symm)]
def fm_put1 (M : fm_M) (o k : Nat) (v : Int32) : fm_M := (va_up M.1 o (va_up (M.1 o) k v), M.2.1, M.2.2)
def fm_put2 (M : fm_M) (o k : Nat) (v : Int64) : fm_M := (M.1, va_up M.2.1 o (va_up (M.2.1 o) k v), M.2.2)
def fm_put3 (M : fm_M) (o k : Nat) (v : Option Nat) : fm_M := (M.1, M.2.1, va_up M.2.2 o (va_up (M.2.2 o) k v))
theorem fm_upS {α : Type} {f : Nat → α} {k : Nat} {v : α} : va_up f k v k = v := if_pos rfl
theorem fm_upN {α : Type} {f : Nat → α} {k j : Nat} {v : α} (h : j ≠ k) : va_up f k v j = f j := if_neg h
theorem fm_upI {f : Nat → Int32} {k : Nat} {v : Int32} : upd f k v = va_up f k v := rfl
theorem fm_upL {f : Nat → Int64} {k : Nat} {v : Int64} : vp_updL f k v = va_up f k v := rfl
theorem fm_cell_obj {lay : Nat → Nat × Nat} {nf : Nat → Nat} {fk : Nat → Nat → Nat} {ad : Nat → Nat} {dA : Nat → ClassId} {M : fm_M} {o ci : Nat} (hl : (lay o).1 = ci) (hlt : ci < 100) : fm_cell lay nf fk ad dA M o = .inr (ci, (List.range (nf ci)).map (fm_fv fk ad M ci o)) := by
  subst hl
  exact if_pos hlt
theorem fm_cell_int {lay : Nat → Nat × Nat} {nf : Nat → Nat} {fk : Nat → Nat → Nat} {ad : Nat → Nat} {dA : Nat → ClassId} {M : fm_M} {o ki len : Nat} (hl : lay o = (ki, len)) (h1 : 100 ≤ ki) (h2 : ki < 110) : fm_cell lay nf fk ad dA M o = .inl (dA ki, len, .inl (M.1 o)) := by
  unfold fm_cell
  rw [hl, if_neg (by show ¬ ki < 100; omega), if_pos (by exact h2)]
theorem fm_cell_long {lay : Nat → Nat × Nat} {nf : Nat → Nat} {fk : Nat → Nat → Nat} {ad : Nat → Nat} {dA : Nat → ClassId} {M : fm_M} {o ki len : Nat} (hl : lay o = (ki, len)) (h1 : 110 ≤ ki) (h2 : ki < 120) : fm_cell lay nf fk ad dA M o = .inl (dA ki, len, .inr (.inl (M.2.1 o))) := by
  unfold fm_cell
  rw [hl, if_neg (by show ¬ ki < 100; omega), if_neg (by show ¬ ki < 110; omega), if_pos (by exact h2)]
theorem fm_cell_ref {lay : Nat → Nat × Nat} {nf : Nat → Nat} {fk : Nat → Nat → Nat} {ad : Nat → Nat} {dA : Nat → ClassId} {M : fm_M} {o ki len : Nat} (hl : lay o = (ki, len)) (h1 : 120 ≤ ki) : fm_cell lay nf fk ad dA M o = .inl (dA ki, len, .inr (.inr (.inr (.inr (fun j => (M.2.2 o j).map ad))))) := by
  unfold fm_cell
  rw [hl, if_neg (by show ¬ ki < 100; omega), if_neg (by show ¬ ki < 110; omega), if_neg (by show ¬ ki < 120; omega)]
theorem fm_cell_eq {lay : Nat → Nat × Nat} {nf : Nat → Nat} {fk : Nat → Nat → Nat} {ad : Nat → Nat} {dA : Nat → ClassId} {M M' : fm_M} {q : Nat} (h1 : M'.1 q = M.1 q) (h2 : M'.2.1 q = M.2.1 q) (h3 : M'.2.2 q = M.2.2 q) : fm_cell lay nf fk ad dA M' q = fm_cell lay nf fk ad dA M q := by
  have hf : ∀ ci, fm_fv fk ad M' ci q = fm_fv fk ad M ci q := fun ci => by
    funext j
    unfold fm_fv
    rw [h1, h2, h3]
  unfold fm_cell
  rw [h1, h2, h3, hf]
/-- what the tables say of a class of the world -/
def fm_Kc (Ts : List Cond) (cl : List vw_C) (nf : Nat → Nat) (ci : Nat) (C : String) (T : u_T) (N : Nat) (ty0 : Nat → FieldType) : Prop :=
  cl[ci]? = some (C, T, N) ∧ nf ci = N ∧ (∀ w ∈ u_ws C T N, w ∈ Ts) ∧ (∀ k, k < N → parseFieldDescriptor (T k).2.2.1 = some (ty0 k)) ∧ (∀ a, a < N → ∀ b, b < N → a ≠ b → (T a).2.1 ≠ (T b).2.1)
section FMM
variable {p : Program} {l : Launch} {e : Env} {R : Room} {s : State} {m : MethodId} {args : Array Value} {below : List Frame} {meth : Method} {c : Code} {Q : State → Prop}
variable {lay : Nat → Nat × Nat} {nf : Nat → Nat} {fk : Nat → Nat → Nat} {cl : List vw_C} {b : Nat} {x : Nat → Nat} {D : va_G} {dA : Nat → ClassId} {nL : Nat} {cc : ByteArray} {own : String} {Ts : List Cond} {tys : List (ClassId × FieldType)}
variable {pc : Nat} {lv lv' : List (Nat × Value)} {st : List Value} {n : Nat} {M : fm_M} {z : Nat × Nat}
theorem fm_fs {ci o : Nat} {N k : Nat} {ad : Nat → Nat} (hN : nf ci = N) (hk : k < N) : ((List.range (nf ci)).map (fm_fv fk ad M ci o))[k]? = some (fm_fv fk ad M ci o k) := by
  rw [hN, List.getElem?_map, List.getElem?_range hk]
  rfl
theorem fm_getI (hc : fm_Cx p s m args meth c cl b D nL cc own Ts tys) {o ci k idx N : Nat} {C : String} {T : u_T} {ty0 : Nat → FieldType} (hk : fm_Kc Ts cl nf ci C T N ty0) (hd : decode cc pc = .ok (.getfield idx, 3)) (hw : Cond.fieldLink own idx C (T k).2.1 (T k).2.2.1 ∈ Ts) (hT : (T k).1 = C) (h8 : 8 ≤ o) (hn : o < n) (hl : (lay o).1 = ci) (hlt : ci < 100) (hkN : k < N) (hf : fk ci k = 0)
    (kk : fm_G p l e R s m args below meth c Q lay nf fk cl b x D dA nL (pc + 3) lv (.int (M.1 o k) :: st) n M z) : fm_G p l e R s m args below meth c Q lay nf fk cl b x D dA nL pc lv (.ref o :: st) n M z := by
  intro ls H locs h1 h2 h3
  have hfv : fm_fv fk (fm_ad b x) M ci o k = .int (M.1 o k) := by simp [fm_fv, hf]
  exact va_get hc.1 hc.2.1 hc.2.2.2.2.1 hk.2.2.1 hc.2.2.2.1 hc.2.2.2.2.2.1 h2 (o - 8) (by rw [fm_ws_at h8 hn, fm_cell_obj hl hlt]) hk.1 k hkN (hc.2.2.2.2.1 _ hw) (fun y hy => by rw [hT] at hy; exact hy) ((fm_fs hk.2.1 hkN).trans (congrArg some hfv)) hd (kk ls H locs h1 h2 h3)
theorem fm_getL (hc : fm_Cx p s m args meth c cl b D nL cc own Ts tys) {o ci k idx N : Nat} {C : String} {T : u_T} {ty0 : Nat → FieldType} (hk : fm_Kc Ts cl nf ci C T N ty0) (hd : decode cc pc = .ok (.getfield idx, 3)) (hw : Cond.fieldLink own idx C (T k).2.1 (T k).2.2.1 ∈ Ts) (hT : (T k).1 = C) (h8 : 8 ≤ o) (hn : o < n) (hl : (lay o).1 = ci) (hlt : ci < 100) (hkN : k < N) (hf : fk ci k = 1)
    (kk : fm_G p l e R s m args below meth c Q lay nf fk cl b x D dA nL (pc + 3) lv (.long (M.2.1 o k) :: st) n M z) : fm_G p l e R s m args below meth c Q lay nf fk cl b x D dA nL pc lv (.ref o :: st) n M z := by
  intro ls H locs h1 h2 h3
  have hfv : fm_fv fk (fm_ad b x) M ci o k = .long (M.2.1 o k) := by simp [fm_fv, hf]
  exact va_get hc.1 hc.2.1 hc.2.2.2.2.1 hk.2.2.1 hc.2.2.2.1 hc.2.2.2.2.2.1 h2 (o - 8) (by rw [fm_ws_at h8 hn, fm_cell_obj hl hlt]) hk.1 k hkN (hc.2.2.2.2.1 _ hw) (fun y hy => by rw [hT] at hy; exact hy) ((fm_fs hk.2.1 hkN).trans (congrArg some hfv)) hd (kk ls H locs h1 h2 h3)
theorem fm_getR (hc : fm_Cx p s m args meth c cl b D nL cc own Ts tys) {o ci k idx N : Nat} {C : String} {T : u_T} {ty0 : Nat → FieldType} (hk : fm_Kc Ts cl nf ci C T N ty0) (hd : decode cc pc = .ok (.getfield idx, 3)) (hw : Cond.fieldLink own idx C (T k).2.1 (T k).2.2.1 ∈ Ts) (hT : (T k).1 = C) (h8 : 8 ≤ o) (hn : o < n) (hl : (lay o).1 = ci) (hlt : ci < 100) (hkN : k < N) (hf : fk ci k = 2) {q : Nat} (hq : M.2.2 o k = some q)
    (kk : fm_G p l e R s m args below meth c Q lay nf fk cl b x D dA nL (pc + 3) lv (.ref q :: st) n M z) : fm_G p l e R s m args below meth c Q lay nf fk cl b x D dA nL pc lv (.ref o :: st) n M z := by
  intro ls H locs h1 h2 h3
  have hfv : fm_fv fk (fm_ad b x) M ci o k = .ref (fm_ad b x q) := by simp [fm_fv, hf, hq, va_rf]
  exact va_get hc.1 hc.2.1 hc.2.2.2.2.1 hk.2.2.1 hc.2.2.2.1 hc.2.2.2.2.2.1 h2 (o - 8) (by rw [fm_ws_at h8 hn, fm_cell_obj hl hlt]) hk.1 k hkN (hc.2.2.2.2.1 _ hw) (fun y hy => by rw [hT] at hy; exact hy) ((fm_fs hk.2.1 hkN).trans (congrArg some hfv)) hd (kk ls H locs h1 h2 h3)
theorem fm_putI (hc : fm_Cx p s m args meth c cl b D nL cc own Ts tys) {o ci k idx N : Nat} {C : String} {T : u_T} {ty0 : Nat → FieldType} {v : Int32} (hk : fm_Kc Ts cl nf ci C T N ty0) (hd : decode cc pc = .ok (.putfield idx, 3)) (hw : Cond.fieldLink own idx C (T k).2.1 (T k).2.2.1 ∈ Ts) (hT : (T k).1 = C) (h8 : 8 ≤ o) (hn : o < n) (hl : (lay o).1 = ci) (hlt : ci < 100) (hkN : k < N) (hf : fk ci k = 0) (hfin : (T k).2.2.2 = false)
    (hna : narrow (ty0 k) (.int v) = .int v) (hfit : fits (ty0 k) (.int v) = true)
    (kk : fm_G p l e R s m args below meth c Q lay nf fk cl b x D dA nL (pc + 3) lv st n (fm_put1 M o k v) z) : fm_G p l e R s m args below meth c Q lay nf fk cl b x D dA nL pc lv (.int v :: .ref o :: st) n M z := by
  intro ls H locs h1 h2 h3
  have hE : fm_cell lay nf fk (fm_ad b x) dA (fm_put1 M o k v) o = .inr (ci, ((List.range (nf ci)).map (fm_fv fk (fm_ad b x) M ci o)).set k (.int v)) := by
    rw [fm_cell_obj hl hlt, fm_map_set (g := fm_fv fk (fm_ad b x) (fm_put1 M o k v) ci o)]
    · unfold fm_fv
      rw [hf]
      simp [fm_put1, fm_put2, fm_put3, va_up, va_rf]
    · intro j hj
      unfold fm_fv
      simp [fm_put1, fm_put2, fm_put3, va_up, hj]
  have hset := fm_ws_set (lay := lay) (nf := nf) (fk := fk) (b := b) (x := x) (dA := dA) (n := n) (M := M) (M' := fm_put1 M o k v) (o := o) h8 hn hE (fun q _ hq => fm_cell_eq (by simp [fm_put1, fm_put2, fm_put3, va_up, hq]) (by simp [fm_put1, fm_put2, fm_put3, va_up, hq]) (by simp [fm_put1, fm_put2, fm_put3, va_up, hq]))
  refine va_put (v := .int v) (ty := ty0 k) hc.1 hc.2.1 hc.2.2.2.2.1 hk.2.2.1 ty0 hk.2.2.2.1 hk.2.2.2.2 hc.2.2.2.1 hc.2.2.2.2.2.1 h2 fm_ws_D h3 (o - 8) (by rw [fm_ws_at h8 hn, fm_cell_obj hl hlt]) hk.1 k hkN (hc.2.2.2.2.1 _ hw) (fun y hy => by rw [hT] at hy; exact hy) hfin (hk.2.2.2.1 k hkN) hna hfit (by rw [List.length_map, List.length_range, hk.2.1]; exact hkN) hd (fun H1 locs1 g1 g2 g3 => ?_)
  rw [hset] at g1
  exact kk ls H1 locs1 h1 g1 g3
theorem fm_putIF (hc : fm_Cx p s m args meth c cl b D nL cc own Ts tys) {o ci k idx N : Nat} {C : String} {T : u_T} {ty0 : Nat → FieldType} {v : Int32} (hk : fm_Kc Ts cl nf ci C T N ty0) (hd : decode cc pc = .ok (.putfield idx, 3)) (hw : Cond.fieldLink own idx C (T k).2.1 (T k).2.2.1 ∈ Ts) (hT : (T k).1 = C) (h8 : 8 ≤ o) (hn : o < n) (hl : (lay o).1 = ci) (hlt : ci < 100) (hkN : k < N) (hf : fk ci k = 0) (hfin : (T k).2.2.2 = true) (hin2 : meth.name = "<init>") (hown2 : C = own)
    (hna : narrow (ty0 k) (.int v) = .int v) (hfit : fits (ty0 k) (.int v) = true)
    (kk : fm_G p l e R s m args below meth c Q lay nf fk cl b x D dA nL (pc + 3) lv st n (fm_put1 M o k v) z) : fm_G p l e R s m args below meth c Q lay nf fk cl b x D dA nL pc lv (.int v :: .ref o :: st) n M z := by
  intro ls H locs h1 h2 h3
  have hE : fm_cell lay nf fk (fm_ad b x) dA (fm_put1 M o k v) o = .inr (ci, ((List.range (nf ci)).map (fm_fv fk (fm_ad b x) M ci o)).set k (.int v)) := by
    rw [fm_cell_obj hl hlt, fm_map_set (g := fm_fv fk (fm_ad b x) (fm_put1 M o k v) ci o)]
    · unfold fm_fv
      rw [hf]
      simp [fm_put1, fm_put2, fm_put3, va_up, va_rf]
    · intro j hj
      unfold fm_fv
      simp [fm_put1, fm_put2, fm_put3, va_up, hj]
  have hset := fm_ws_set (lay := lay) (nf := nf) (fk := fk) (b := b) (x := x) (dA := dA) (n := n) (M := M) (M' := fm_put1 M o k v) (o := o) h8 hn hE (fun q _ hq => fm_cell_eq (by simp [fm_put1, fm_put2, fm_put3, va_up, hq]) (by simp [fm_put1, fm_put2, fm_put3, va_up, hq]) (by simp [fm_put1, fm_put2, fm_put3, va_up, hq]))
  refine va_putF (v := .int v) (ty := ty0 k) hc.1 hc.2.1 hc.2.2.2.2.1 hk.2.2.1 ty0 hk.2.2.2.1 hk.2.2.2.2 hc.2.2.2.1 hc.2.2.2.2.2.1 h2 fm_ws_D h3 (o - 8) (by rw [fm_ws_at h8 hn, fm_cell_obj hl hlt]) hk.1 k hkN (hc.2.2.2.2.1 _ hw) (fun y hy => by rw [hT] at hy; exact hy) hfin hin2 (hT.trans hown2) (hk.2.2.2.1 k hkN) hna hfit (by rw [List.length_map, List.length_range, hk.2.1]; exact hkN) hd (fun H1 locs1 g1 g2 g3 => ?_)
  rw [hset] at g1
  exact kk ls H1 locs1 h1 g1 g3
theorem fm_putL (hc : fm_Cx p s m args meth c cl b D nL cc own Ts tys) {o ci k idx N : Nat} {C : String} {T : u_T} {ty0 : Nat → FieldType} {v : Int64} (hk : fm_Kc Ts cl nf ci C T N ty0) (hd : decode cc pc = .ok (.putfield idx, 3)) (hw : Cond.fieldLink own idx C (T k).2.1 (T k).2.2.1 ∈ Ts) (hT : (T k).1 = C) (h8 : 8 ≤ o) (hn : o < n) (hl : (lay o).1 = ci) (hlt : ci < 100) (hkN : k < N) (hf : fk ci k = 1) (hfin : (T k).2.2.2 = false)
    (hna : narrow (ty0 k) (.long v) = .long v) (hfit : fits (ty0 k) (.long v) = true)
    (kk : fm_G p l e R s m args below meth c Q lay nf fk cl b x D dA nL (pc + 3) lv st n (fm_put2 M o k v) z) : fm_G p l e R s m args below meth c Q lay nf fk cl b x D dA nL pc lv (.long v :: .ref o :: st) n M z := by
  intro ls H locs h1 h2 h3
  have hE : fm_cell lay nf fk (fm_ad b x) dA (fm_put2 M o k v) o = .inr (ci, ((List.range (nf ci)).map (fm_fv fk (fm_ad b x) M ci o)).set k (.long v)) := by
    rw [fm_cell_obj hl hlt, fm_map_set (g := fm_fv fk (fm_ad b x) (fm_put2 M o k v) ci o)]
    · unfold fm_fv
      rw [hf]
      simp [fm_put1, fm_put2, fm_put3, va_up, va_rf]
    · intro j hj
      unfold fm_fv
      simp [fm_put1, fm_put2, fm_put3, va_up, hj]
  have hset := fm_ws_set (lay := lay) (nf := nf) (fk := fk) (b := b) (x := x) (dA := dA) (n := n) (M := M) (M' := fm_put2 M o k v) (o := o) h8 hn hE (fun q _ hq => fm_cell_eq (by simp [fm_put1, fm_put2, fm_put3, va_up, hq]) (by simp [fm_put1, fm_put2, fm_put3, va_up, hq]) (by simp [fm_put1, fm_put2, fm_put3, va_up, hq]))
  refine va_put (v := .long v) (ty := ty0 k) hc.1 hc.2.1 hc.2.2.2.2.1 hk.2.2.1 ty0 hk.2.2.2.1 hk.2.2.2.2 hc.2.2.2.1 hc.2.2.2.2.2.1 h2 fm_ws_D h3 (o - 8) (by rw [fm_ws_at h8 hn, fm_cell_obj hl hlt]) hk.1 k hkN (hc.2.2.2.2.1 _ hw) (fun y hy => by rw [hT] at hy; exact hy) hfin (hk.2.2.2.1 k hkN) hna hfit (by rw [List.length_map, List.length_range, hk.2.1]; exact hkN) hd (fun H1 locs1 g1 g2 g3 => ?_)
  rw [hset] at g1
  exact kk ls H1 locs1 h1 g1 g3
theorem fm_putLF (hc : fm_Cx p s m args meth c cl b D nL cc own Ts tys) {o ci k idx N : Nat} {C : String} {T : u_T} {ty0 : Nat → FieldType} {v : Int64} (hk : fm_Kc Ts cl nf ci C T N ty0) (hd : decode cc pc = .ok (.putfield idx, 3)) (hw : Cond.fieldLink own idx C (T k).2.1 (T k).2.2.1 ∈ Ts) (hT : (T k).1 = C) (h8 : 8 ≤ o) (hn : o < n) (hl : (lay o).1 = ci) (hlt : ci < 100) (hkN : k < N) (hf : fk ci k = 1) (hfin : (T k).2.2.2 = true) (hin2 : meth.name = "<init>") (hown2 : C = own)
    (hna : narrow (ty0 k) (.long v) = .long v) (hfit : fits (ty0 k) (.long v) = true)
    (kk : fm_G p l e R s m args below meth c Q lay nf fk cl b x D dA nL (pc + 3) lv st n (fm_put2 M o k v) z) : fm_G p l e R s m args below meth c Q lay nf fk cl b x D dA nL pc lv (.long v :: .ref o :: st) n M z := by
  intro ls H locs h1 h2 h3
  have hE : fm_cell lay nf fk (fm_ad b x) dA (fm_put2 M o k v) o = .inr (ci, ((List.range (nf ci)).map (fm_fv fk (fm_ad b x) M ci o)).set k (.long v)) := by
    rw [fm_cell_obj hl hlt, fm_map_set (g := fm_fv fk (fm_ad b x) (fm_put2 M o k v) ci o)]
    · unfold fm_fv
      rw [hf]
      simp [fm_put1, fm_put2, fm_put3, va_up, va_rf]
    · intro j hj
      unfold fm_fv
      simp [fm_put1, fm_put2, fm_put3, va_up, hj]
  have hset := fm_ws_set (lay := lay) (nf := nf) (fk := fk) (b := b) (x := x) (dA := dA) (n := n) (M := M) (M' := fm_put2 M o k v) (o := o) h8 hn hE (fun q _ hq => fm_cell_eq (by simp [fm_put1, fm_put2, fm_put3, va_up, hq]) (by simp [fm_put1, fm_put2, fm_put3, va_up, hq]) (by simp [fm_put1, fm_put2, fm_put3, va_up, hq]))
  refine va_putF (v := .long v) (ty := ty0 k) hc.1 hc.2.1 hc.2.2.2.2.1 hk.2.2.1 ty0 hk.2.2.2.1 hk.2.2.2.2 hc.2.2.2.1 hc.2.2.2.2.2.1 h2 fm_ws_D h3 (o - 8) (by rw [fm_ws_at h8 hn, fm_cell_obj hl hlt]) hk.1 k hkN (hc.2.2.2.2.1 _ hw) (fun y hy => by rw [hT] at hy; exact hy) hfin hin2 (hT.trans hown2) (hk.2.2.2.1 k hkN) hna hfit (by rw [List.length_map, List.length_range, hk.2.1]; exact hkN) hd (fun H1 locs1 g1 g2 g3 => ?_)
  rw [hset] at g1
  exact kk ls H1 locs1 h1 g1 g3
theorem fm_putR (hc : fm_Cx p s m args meth c cl b D nL cc own Ts tys) {o ci k idx N : Nat} {C : String} {T : u_T} {ty0 : Nat → FieldType} {v : Nat} (hk : fm_Kc Ts cl nf ci C T N ty0) (hd : decode cc pc = .ok (.putfield idx, 3)) (hw : Cond.fieldLink own idx C (T k).2.1 (T k).2.2.1 ∈ Ts) (hT : (T k).1 = C) (h8 : 8 ≤ o) (hn : o < n) (hl : (lay o).1 = ci) (hlt : ci < 100) (hkN : k < N) (hf : fk ci k = 2) (hfin : (T k).2.2.2 = false)
    (hna : narrow (ty0 k) (.ref (fm_ad b x v)) = .ref (fm_ad b x v)) (hfit : fits (ty0 k) (.ref (fm_ad b x v)) = true)
    (kk : fm_G p l e R s m args below meth c Q lay nf fk cl b x D dA nL (pc + 3) lv st n (fm_put3 M o k (some v)) z) : fm_G p l e R s m args below meth c Q lay nf fk cl b x D dA nL pc lv (.ref v :: .ref o :: st) n M z := by
  intro ls H locs h1 h2 h3
  have hE : fm_cell lay nf fk (fm_ad b x) dA (fm_put3 M o k (some v)) o = .inr (ci, ((List.range (nf ci)).map (fm_fv fk (fm_ad b x) M ci o)).set k (.ref (fm_ad b x v))) := by
    rw [fm_cell_obj hl hlt, fm_map_set (g := fm_fv fk (fm_ad b x) (fm_put3 M o k (some v)) ci o)]
    · unfold fm_fv
      rw [hf]
      simp [fm_put1, fm_put2, fm_put3, va_up, va_rf]
    · intro j hj
      unfold fm_fv
      simp [fm_put1, fm_put2, fm_put3, va_up, hj]
  have hset := fm_ws_set (lay := lay) (nf := nf) (fk := fk) (b := b) (x := x) (dA := dA) (n := n) (M := M) (M' := fm_put3 M o k (some v)) (o := o) h8 hn hE (fun q _ hq => fm_cell_eq (by simp [fm_put1, fm_put2, fm_put3, va_up, hq]) (by simp [fm_put1, fm_put2, fm_put3, va_up, hq]) (by simp [fm_put1, fm_put2, fm_put3, va_up, hq]))
  refine va_put (v := .ref (fm_ad b x v)) (ty := ty0 k) hc.1 hc.2.1 hc.2.2.2.2.1 hk.2.2.1 ty0 hk.2.2.2.1 hk.2.2.2.2 hc.2.2.2.1 hc.2.2.2.2.2.1 h2 fm_ws_D h3 (o - 8) (by rw [fm_ws_at h8 hn, fm_cell_obj hl hlt]) hk.1 k hkN (hc.2.2.2.2.1 _ hw) (fun y hy => by rw [hT] at hy; exact hy) hfin (hk.2.2.2.1 k hkN) hna hfit (by rw [List.length_map, List.length_range, hk.2.1]; exact hkN) hd (fun H1 locs1 g1 g2 g3 => ?_)
  rw [hset] at g1
  exact kk ls H1 locs1 h1 g1 g3
theorem fm_putRF (hc : fm_Cx p s m args meth c cl b D nL cc own Ts tys) {o ci k idx N : Nat} {C : String} {T : u_T} {ty0 : Nat → FieldType} {v : Nat} (hk : fm_Kc Ts cl nf ci C T N ty0) (hd : decode cc pc = .ok (.putfield idx, 3)) (hw : Cond.fieldLink own idx C (T k).2.1 (T k).2.2.1 ∈ Ts) (hT : (T k).1 = C) (h8 : 8 ≤ o) (hn : o < n) (hl : (lay o).1 = ci) (hlt : ci < 100) (hkN : k < N) (hf : fk ci k = 2) (hfin : (T k).2.2.2 = true) (hin2 : meth.name = "<init>") (hown2 : C = own)
    (hna : narrow (ty0 k) (.ref (fm_ad b x v)) = .ref (fm_ad b x v)) (hfit : fits (ty0 k) (.ref (fm_ad b x v)) = true)
    (kk : fm_G p l e R s m args below meth c Q lay nf fk cl b x D dA nL (pc + 3) lv st n (fm_put3 M o k (some v)) z) : fm_G p l e R s m args below meth c Q lay nf fk cl b x D dA nL pc lv (.ref v :: .ref o :: st) n M z := by
  intro ls H locs h1 h2 h3
  have hE : fm_cell lay nf fk (fm_ad b x) dA (fm_put3 M o k (some v)) o = .inr (ci, ((List.range (nf ci)).map (fm_fv fk (fm_ad b x) M ci o)).set k (.ref (fm_ad b x v))) := by
    rw [fm_cell_obj hl hlt, fm_map_set (g := fm_fv fk (fm_ad b x) (fm_put3 M o k (some v)) ci o)]
    · unfold fm_fv
      rw [hf]
      simp [fm_put1, fm_put2, fm_put3, va_up, va_rf]
    · intro j hj
      unfold fm_fv
      simp [fm_put1, fm_put2, fm_put3, va_up, hj]
  have hset := fm_ws_set (lay := lay) (nf := nf) (fk := fk) (b := b) (x := x) (dA := dA) (n := n) (M := M) (M' := fm_put3 M o k (some v)) (o := o) h8 hn hE (fun q _ hq => fm_cell_eq (by simp [fm_put1, fm_put2, fm_put3, va_up, hq]) (by simp [fm_put1, fm_put2, fm_put3, va_up, hq]) (by simp [fm_put1, fm_put2, fm_put3, va_up, hq]))
  refine va_putF (v := .ref (fm_ad b x v)) (ty := ty0 k) hc.1 hc.2.1 hc.2.2.2.2.1 hk.2.2.1 ty0 hk.2.2.2.1 hk.2.2.2.2 hc.2.2.2.1 hc.2.2.2.2.2.1 h2 fm_ws_D h3 (o - 8) (by rw [fm_ws_at h8 hn, fm_cell_obj hl hlt]) hk.1 k hkN (hc.2.2.2.2.1 _ hw) (fun y hy => by rw [hT] at hy; exact hy) hfin hin2 (hT.trans hown2) (hk.2.2.2.1 k hkN) hna hfit (by rw [List.length_map, List.length_range, hk.2.1]; exact hkN) hd (fun H1 locs1 g1 g2 g3 => ?_)
  rw [hset] at g1
  exact kk ls H1 locs1 h1 g1 g3
end FMM
