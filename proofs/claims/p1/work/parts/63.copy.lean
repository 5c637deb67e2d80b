/-! System.arraycopy, loops, layouts of a memory -/
theorem q_586 : (Cond.native arraycopyName) ∈ fm_T0 := fm_T0_3 106 rfl rfl
theorem q_max : Cond.code Lib.Math.max.name Lib.Math.max.code 2 (some .int) ∈ fm_T0 := q_447
theorem q_min : Cond.code Lib.Math.min.name Lib.Math.min.code 2 (some .int) ∈ fm_T0 := q_783
def fm_cpy1 (M : fm_M) (o0 o1 sp dp k : Nat) : fm_M := (va_up M.1 o1 (va_cpy (M.1 o0) (M.1 o1) sp dp k), M.2.1, M.2.2)
def fm_cpy2 (M : fm_M) (o0 o1 sp dp k : Nat) : fm_M := (M.1, va_up M.2.1 o1 (va_cpy (M.2.1 o0) (M.2.1 o1) sp dp k), M.2.2)
section FMY
variable {p : Program} {l : Launch} {e : Env} {R : Room} {s : State} {m : MethodId} {args : Array Value} {below : List Frame} {meth : Method} {c : Code} {Q : State → Prop}
variable {lay : Nat → Nat × Nat} {nf : Nat → Nat} {fk : Nat → Nat → Nat} {cl : List vw_C} {b : Nat} {x : Nat → Nat} {D : va_G} {dA : Nat → ClassId} {nL : Nat} {cc : ByteArray} {own : String} {Ts : List Cond} {tys : List (ClassId × FieldType)}
variable {pc : Nat} {lv : List (Nat × Value)} {st : List Value} {n : Nat} {M : fm_M} {z : Nat × Nat}
theorem fm_cpyI (hc : fm_Cx p s m args meth c cl b D nL cc own Ts tys) {o0 o1 l0 l1 sp dp k idx : Nat} (t0 : Nat) (hlink : Cond.methodLink own idx arraycopyName ∈ Ts) (hnat : Cond.native arraycopyName ∈ Ts) (hstat : Cond.static arraycopyName ∈ Ts) (hini : Cond.initialized "java/lang/System" ∈ Ts) (hd : decode cc pc = .ok (.invokestatic idx, 3)) (a8 : 8 ≤ o0) (an : o0 < n) (al : lay o0 = (100, l0)) (h8 : 8 ≤ o1) (hn : o1 < n) (hl : lay o1 = (100, l1)) (ht : tys[t0]? = some (dA 100, .int)) (h4 : sp + k ≤ l0) (h5 : dp + k ≤ l1) (hl0 : l0 < 2 ^ 31) (hl1 : l1 < 2 ^ 31) (hfr : 1 ≤ R.frames) (hlo : (st.map fun v => v.category).sum + (nativeFrameWords "java/lang/System" "arraycopy" 5 + 11) ≤ R.locals)
    (kk : fm_G p l e R s m args below meth c Q lay nf fk cl b x D dA nL (pc + 3) lv st n (fm_cpy1 M o0 o1 sp dp k) z) : fm_G p l e R s m args below meth c Q lay nf fk cl b x D dA nL pc lv (.int (nI k) :: .int (nI dp) :: .ref o1 :: .int (nI sp) :: .ref o0 :: st) n M z := by
  intro ls H locs h1 h2 h3
  have hE : fm_cell lay nf fk (fm_ad b x) dA (fm_cpy1 M o0 o1 sp dp k) o1 = .inl (dA 100, l1, .inl (va_cpy (M.1 o0) (M.1 o1) sp dp k)) := by
    rw [fm_cell_int hl (by omega) (by omega)]
    simp [fm_cpy1, fm_upS]
  have hset := fm_ws_set (lay := lay) (nf := nf) (fk := fk) (b := b) (x := x) (dA := dA) (n := n) (M := M) (M' := fm_cpy1 M o0 o1 sp dp k) (o := o1) h8 hn hE (fun q _ hq => fm_cell_eq (by simp [fm_cpy1, va_up, hq]) rfl rfl)
  have hst : ((st.map (fm_v (fm_ad b x))).map fun v => v.category).sum = (st.map fun v => v.category).sum := by
    rw [List.map_map, show ((fun v => v.category) ∘ fm_v (fm_ad b x)) = (fun v : Value => v.category) from funext (fun v => fm_v_cat _ v)]
  refine va_copyi (rest := st.map (fm_v (fm_ad b x))) hc.1 hc.2.1 (by rw [hc.2.2.1]; exact h1.1.symm) hc.2.2.2.1 (hc.2.2.2.2.1 _ hlink) (hc.2.2.2.2.1 _ hnat) (hc.2.2.2.2.1 _ hstat) (hc.2.2.2.2.1 _ hini) hc.2.2.2.2.2.1 h2 fm_ws_D h3 (o0 - 8) (o1 - 8) t0 t0 (by rw [fm_ws_at a8 an, fm_cell_int al (by omega) (by omega)]) (by rw [fm_ws_at h8 hn, fm_cell_int hl (by omega) (by omega)]) ht ht rfl (nI_pos (by omega)) (nI_pos (by omega)) (nI_pos (by omega)) (by rw [nI_clamp (by omega), nI_clamp (by omega)]; exact h4) (by rw [nI_clamp (by omega), nI_clamp (by omega)]; exact h5) (fun _ _ => rfl) hfr (by rw [hst]; exact hlo) hd (fun H1 locs1 g1 g2 g3 => ?_)
  rw [nI_clamp (show sp < 2 ^ 31 by omega), nI_clamp (show dp < 2 ^ 31 by omega), nI_clamp (show k < 2 ^ 31 by omega), hset] at g1
  exact kk ls H1 locs1 h1 g1 g3
theorem fm_cpyL (hc : fm_Cx p s m args meth c cl b D nL cc own Ts tys) {o0 o1 l0 l1 sp dp k idx : Nat} (t0 : Nat) (hlink : Cond.methodLink own idx arraycopyName ∈ Ts) (hnat : Cond.native arraycopyName ∈ Ts) (hstat : Cond.static arraycopyName ∈ Ts) (hini : Cond.initialized "java/lang/System" ∈ Ts) (hd : decode cc pc = .ok (.invokestatic idx, 3)) (a8 : 8 ≤ o0) (an : o0 < n) (al : lay o0 = (110, l0)) (h8 : 8 ≤ o1) (hn : o1 < n) (hl : lay o1 = (110, l1)) (ht : tys[t0]? = some (dA 110, .long)) (h4 : sp + k ≤ l0) (h5 : dp + k ≤ l1) (hl0 : l0 < 2 ^ 31) (hl1 : l1 < 2 ^ 31) (hfr : 1 ≤ R.frames) (hlo : (st.map fun v => v.category).sum + (nativeFrameWords "java/lang/System" "arraycopy" 5 + 11) ≤ R.locals)
    (kk : fm_G p l e R s m args below meth c Q lay nf fk cl b x D dA nL (pc + 3) lv st n (fm_cpy2 M o0 o1 sp dp k) z) : fm_G p l e R s m args below meth c Q lay nf fk cl b x D dA nL pc lv (.int (nI k) :: .int (nI dp) :: .ref o1 :: .int (nI sp) :: .ref o0 :: st) n M z := by
  intro ls H locs h1 h2 h3
  have hE : fm_cell lay nf fk (fm_ad b x) dA (fm_cpy2 M o0 o1 sp dp k) o1 = .inl (dA 110, l1, .inr (.inl (va_cpy (M.2.1 o0) (M.2.1 o1) sp dp k))) := by
    rw [fm_cell_long hl (by omega) (by omega)]
    simp [fm_cpy2, fm_upS]
  have hset := fm_ws_set (lay := lay) (nf := nf) (fk := fk) (b := b) (x := x) (dA := dA) (n := n) (M := M) (M' := fm_cpy2 M o0 o1 sp dp k) (o := o1) h8 hn hE (fun q _ hq => fm_cell_eq rfl (by simp [fm_cpy2, va_up, hq]) rfl)
  have hst : ((st.map (fm_v (fm_ad b x))).map fun v => v.category).sum = (st.map fun v => v.category).sum := by
    rw [List.map_map, show ((fun v => v.category) ∘ fm_v (fm_ad b x)) = (fun v : Value => v.category) from funext (fun v => fm_v_cat _ v)]
  refine va_copyl (rest := st.map (fm_v (fm_ad b x))) hc.1 hc.2.1 (by rw [hc.2.2.1]; exact h1.1.symm) hc.2.2.2.1 (hc.2.2.2.2.1 _ hlink) (hc.2.2.2.2.1 _ hnat) (hc.2.2.2.2.1 _ hstat) (hc.2.2.2.2.1 _ hini) hc.2.2.2.2.2.1 h2 fm_ws_D h3 (o0 - 8) (o1 - 8) t0 t0 (by rw [fm_ws_at a8 an, fm_cell_long al (by omega) (by omega)]) (by rw [fm_ws_at h8 hn, fm_cell_long hl (by omega) (by omega)]) ht ht rfl (nI_pos (by omega)) (nI_pos (by omega)) (nI_pos (by omega)) (by rw [nI_clamp (by omega), nI_clamp (by omega)]; exact h4) (by rw [nI_clamp (by omega), nI_clamp (by omega)]; exact h5) (fun _ _ => rfl) hfr (by rw [hst]; exact hlo) hd (fun H1 locs1 g1 g2 g3 => ?_)
  rw [nI_clamp (show sp < 2 ^ 31 by omega), nI_clamp (show dp < 2 ^ 31 by omega), nI_clamp (show k < 2 ^ 31 by omega), hset] at g1
  exact kk ls H1 locs1 h1 g1 g3
theorem fm_mmax (hc : fm_Cx p s m args meth c cl b D nL cc own Ts tys) {u v : Int32} {idx : Nat} (hlink : Cond.methodLink own idx Lib.Math.max.name ∈ Ts) (hstat : Cond.static Lib.Math.max.name ∈ Ts) (hini : Cond.initialized "java/lang/Math" ∈ Ts) (hcode : Cond.code Lib.Math.max.name Lib.Math.max.code 2 (some .int) ∈ Ts) (hd : decode cc pc = .ok (.invokestatic idx, 3)) (hfr : 1 ≤ R.frames) (hlo : (st.map fun v => v.category).sum + 13 ≤ R.locals) (hz1 : z.1 ≤ R.cells) (hz2 : z.2 ≤ R.slots)
    (kk : fm_G p l e R s m args below meth c Q lay nf fk cl b x D dA nL (pc + 3) lv (.int (if u < v then v else u) :: st) n M z) : fm_G p l e R s m args below meth c Q lay nf fk cl b x D dA nL pc lv (.int v :: .int u :: st) n M z := by
  intro ls H locs h1 h2 h3
  have hst : ((st.map (fm_v (fm_ad b x))).map fun v => v.category).sum = (st.map fun v => v.category).sum := by
    rw [List.map_map, show ((fun v => v.category) ∘ fm_v (fm_ad b x)) = (fun v : Value => v.category) from funext (fun v => fm_v_cat _ v)]
  exact va_mmax (rest := st.map (fm_v (fm_ad b x))) hc.1 hc.2.1 (by rw [hc.2.2.1]; exact h1.1.symm) hc.2.2.2.1 (hc.2.2.2.2.1 _ hlink) (hc.2.2.2.2.1 _ hstat) (hc.2.2.2.2.1 _ hini) (hc.2.2.2.2.1 _ hcode) hfr (by rw [hst]; exact hlo) hz1 hz2 hd (kk ls H locs h1 h2 h3)
theorem fm_mmin (hc : fm_Cx p s m args meth c cl b D nL cc own Ts tys) {u v : Int32} {idx : Nat} (hlink : Cond.methodLink own idx Lib.Math.min.name ∈ Ts) (hstat : Cond.static Lib.Math.min.name ∈ Ts) (hini : Cond.initialized "java/lang/Math" ∈ Ts) (hcode : Cond.code Lib.Math.min.name Lib.Math.min.code 2 (some .int) ∈ Ts) (hd : decode cc pc = .ok (.invokestatic idx, 3)) (hfr : 1 ≤ R.frames) (hlo : (st.map fun v => v.category).sum + 13 ≤ R.locals) (hz1 : z.1 ≤ R.cells) (hz2 : z.2 ≤ R.slots)
    (kk : fm_G p l e R s m args below meth c Q lay nf fk cl b x D dA nL (pc + 3) lv (.int (if v < u then v else u) :: st) n M z) : fm_G p l e R s m args below meth c Q lay nf fk cl b x D dA nL pc lv (.int v :: .int u :: st) n M z := by
  intro ls H locs h1 h2 h3
  have hst : ((st.map (fm_v (fm_ad b x))).map fun v => v.category).sum = (st.map fun v => v.category).sum := by
    rw [List.map_map, show ((fun v => v.category) ∘ fm_v (fm_ad b x)) = (fun v : Value => v.category) from funext (fun v => fm_v_cat _ v)]
  exact va_mmin (rest := st.map (fm_v (fm_ad b x))) hc.1 hc.2.1 (by rw [hc.2.2.1]; exact h1.1.symm) hc.2.2.2.1 (hc.2.2.2.2.1 _ hlink) (hc.2.2.2.2.1 _ hstat) (hc.2.2.2.2.1 _ hini) (hc.2.2.2.2.1 _ hcode) hfr (by rw [hst]; exact hlo) hz1 hz2 hd (kk ls H locs h1 h2 h3)
theorem fm_dropl {lv' : List (Nat × Value)} (hs : ∀ q ∈ lv', q ∈ lv) (k : fm_G p l e R s m args below meth c Q lay nf fk cl b x D dA nL pc lv' st n M z) : fm_G p l e R s m args below meth c Q lay nf fk cl b x D dA nL pc lv st n M z := fun ls H locs h1 h2 h3 => k ls H locs (fm_lv_sub h1 hs) h2 h3
/-- a loop whose memory stays -/
theorem fm_loop0 (N : Nat) (lv : Nat → List (Nat × Value)) (step : ∀ k, k < N → fm_G p l e R s m args below meth c Q lay nf fk cl b x D dA nL pc (lv (k + 1)) st n M z → fm_G p l e R s m args below meth c Q lay nf fk cl b x D dA nL pc (lv k) st n M z) (fin : fm_G p l e R s m args below meth c Q lay nf fk cl b x D dA nL pc (lv N) st n M z) : fm_G p l e R s m args below meth c Q lay nf fk cl b x D dA nL pc (lv 0) st n M z := by
  have key : ∀ d k, k + d = N → fm_G p l e R s m args below meth c Q lay nf fk cl b x D dA nL pc (lv k) st n M z := by
    intro d
    induction d with
    | zero => intro k hk; obtain rfl : k = N := by omega
              exact fin
    | succ d ih => intro k hk; exact step k (by omega) (ih (k + 1) (by omega))
  exact key N 0 (by omega)
end FMY
theorem p1_id {M : fm_M} {o k : Nat} {v : Int32} (h : M.1 o k = v) : fm_put1 M o k v = M := by
  unfold fm_put1
  refine Prod.ext ?_ rfl
  funext q j
  by_cases hq : q = o
  · subst hq
    by_cases hj : j = k
    · subst hj; simp [va_up, h]
    · simp [va_up, hj]
  · simp [va_up, hq]
theorem p2_id {M : fm_M} {o k : Nat} {v : Int64} (h : M.2.1 o k = v) : fm_put2 M o k v = M := by
  unfold fm_put2
  refine Prod.ext rfl (Prod.ext ?_ rfl)
  funext q j
  by_cases hq : q = o
  · subst hq
    by_cases hj : j = k
    · subst hj; simp [va_up, h]
    · simp [va_up, hj]
  · simp [va_up, hq]
theorem c1_id {M : fm_M} {o0 o1 k : Nat} (h : ∀ i, i < k → M.1 o0 i = M.1 o1 i) : fm_cpy1 M o0 o1 0 0 k = M := by
  unfold fm_cpy1
  refine Prod.ext ?_ rfl
  funext q j
  by_cases hq : q = o1
  · subst hq
    by_cases hj : j < k
    · simp [va_up, va_cpy, hj, h j hj]
    · simp [va_up, va_cpy, hj]
  · simp [va_up, hq]
def fm_isM (mm : Nat) : Prop := ∃ j v, j < 4 ∧ v < 3 ∧ mm = 91 + 124 * j + 41 * v
theorem isM_of {j v : Nat} (hj : j < 4) (hv : v < 3) : fm_isM (91 + 124 * j + 41 * v) := ⟨j, v, hj, hv, rfl⟩
theorem isM_lo {mm : Nat} (h : fm_isM mm) : 91 ≤ mm ∧ mm + 41 ≤ 586 := by
  obtain ⟨j, v, hj, hv, rfl⟩ := h
  omega
theorem ly_M {mm k : Nat} (h : fm_isM mm) (hk : k < 41) : fm_lay (mm + k) = fm_layM.getD k (99, 0) := by
  obtain ⟨j, v, hj, hv, rfl⟩ := h
  have e : (91 + 124 * j + 41 * v + k - 90) % 124 = 1 + 41 * v + k := by
    rcases (show v = 0 ∨ v = 1 ∨ v = 2 by omega) with rfl | rfl | rfl <;> omega
  have e2 : (1 + 41 * v + k - 1) % 41 = k := by
    rcases (show v = 0 ∨ v = 1 ∨ v = 2 by omega) with rfl | rfl | rfl <;> omega
  unfold fm_lay
  rw [if_neg (by omega), if_pos (by omega), e, if_neg (by omega), e2]
theorem ly_M0 {mm : Nat} (h : fm_isM mm) : (fm_lay mm).1 = 6 := congrArg Prod.fst (ly_M h (k := 0) (by omega))
theorem ly_Mt {mm a : Nat} (h : fm_isM mm) (ha : a < 8) : (fm_lay (mm + (9 + 4 * a))).1 = 5 := by
  rw [ly_M h (by omega)]
  rcases ap_eight ha with rfl | rfl | rfl | rfl | rfl | rfl | rfl | rfl <;> rfl
/-- the pointers of a memory never move -/
def fm_MP (M : fm_M) (mm : Nat) : Prop := M.2.2 mm 0 = some (mm + 1) ∧ M.2.2 mm 1 = some (mm + 2) ∧ M.2.2 mm 2 = some (mm + 3) ∧ M.2.2 mm 3 = some (mm + 4) ∧ M.2.2 mm 4 = some (mm + 5) ∧ M.2.2 mm 5 = some (mm + 6) ∧ M.2.2 (mm + 6) 0 = some (mm + 7) ∧ M.2.2 (mm + 6) 1 = some (mm + 8) ∧ (∀ a, a < 8 → M.2.2 (mm + 5) a = some (mm + (9 + 4 * a)) ∧ M.2.2 (mm + (9 + 4 * a)) 10 = some (mm + (10 + 4 * a)) ∧ M.2.2 (mm + (9 + 4 * a)) 11 = some (mm + (11 + 4 * a)) ∧ M.2.2 (mm + (9 + 4 * a)) 12 = some (mm + (12 + 4 * a)))
theorem fr_MP1 : ∀ j, j < 4 → ∀ v, v < 3 → fm_M2.2.2 (91 + 124 * j + 41 * v) 0 = some (91 + 124 * j + 41 * v + 1) ∧ fm_M2.2.2 (91 + 124 * j + 41 * v) 1 = some (91 + 124 * j + 41 * v + 2) ∧ fm_M2.2.2 (91 + 124 * j + 41 * v) 2 = some (91 + 124 * j + 41 * v + 3) ∧ fm_M2.2.2 (91 + 124 * j + 41 * v) 3 = some (91 + 124 * j + 41 * v + 4) ∧ fm_M2.2.2 (91 + 124 * j + 41 * v) 4 = some (91 + 124 * j + 41 * v + 5) ∧ fm_M2.2.2 (91 + 124 * j + 41 * v) 5 = some (91 + 124 * j + 41 * v + 6) ∧ fm_M2.2.2 (91 + 124 * j + 41 * v + 6) 0 = some (91 + 124 * j + 41 * v + 7) ∧ fm_M2.2.2 (91 + 124 * j + 41 * v + 6) 1 = some (91 + 124 * j + 41 * v + 8) := by decide +kernel
theorem fr_MP2 : ∀ j, j < 4 → ∀ v, v < 3 → ∀ a, a < 8 → fm_M2.2.2 (91 + 124 * j + 41 * v + 5) a = some (91 + 124 * j + 41 * v + (9 + 4 * a)) ∧ fm_M2.2.2 (91 + 124 * j + 41 * v + (9 + 4 * a)) 10 = some (91 + 124 * j + 41 * v + (10 + 4 * a)) ∧ fm_M2.2.2 (91 + 124 * j + 41 * v + (9 + 4 * a)) 11 = some (91 + 124 * j + 41 * v + (11 + 4 * a)) ∧ fm_M2.2.2 (91 + 124 * j + 41 * v + (9 + 4 * a)) 12 = some (91 + 124 * j + 41 * v + (12 + 4 * a)) := by decide +kernel
theorem fr_MP : ∀ j, j < 4 → ∀ v, v < 3 → fm_MP fm_M2 (91 + 124 * j + 41 * v) := fun j hj v hv => by
  obtain ⟨h1, h2, h3, h4, h5, h6, h7, h8⟩ := fr_MP1 j hj v hv
  exact ⟨h1, h2, h3, h4, h5, h6, h7, h8, fr_MP2 j hj v hv⟩
