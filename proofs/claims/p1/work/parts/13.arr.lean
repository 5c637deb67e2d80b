/-! RULES of arrays and of making -/
section FMA
variable {p : Program} {l : Launch} {e : Env} {R : Room} {s : State} {m : MethodId} {args : Array Value} {below : List Frame} {meth : Method} {c : Code} {Q : State → Prop}
variable {lay : Nat → Nat × Nat} {nf : Nat → Nat} {fk : Nat → Nat → Nat} {cl : List vw_C} {b : Nat} {x : Nat → Nat} {D : va_G} {dA : Nat → ClassId} {nL : Nat} {cc : ByteArray} {own : String} {Ts : List Cond} {tys : List (ClassId × FieldType)}
variable {pc : Nat} {lv lv' : List (Nat × Value)} {st : List Value} {n : Nat} {M : fm_M} {z : Nat × Nat}
theorem fm_iald (hc : fm_Cx p s m args meth c cl b D nL cc own Ts tys) {o j len : Nat} (t0 : Nat) (hd : decode cc pc = .ok (.iaload, 1)) (h8 : 8 ≤ o) (hn : o < n) (hl : lay o = (100, len)) (ht : tys[t0]? = some (dA 100, .int)) (hj : j < len) (hlen : len < 2 ^ 31)
    (kk : fm_G p l e R s m args below meth c Q lay nf fk cl b x D dA nL (pc + 1) lv (.int (M.1 o j) :: st) n M z) : fm_G p l e R s m args below meth c Q lay nf fk cl b x D dA nL pc lv (.int (nI j) :: .ref o :: st) n M z := by
  intro ls H locs h1 h2 h3
  refine va_iald hc.1 hc.2.1 hc.2.2.2.2.2.1 h2 (o - 8) t0 (by rw [fm_ws_at h8 hn, fm_cell_int hl (by omega) (by omega)]) ht (vp_in_nI hj hlen) hd ?_
  rw [nI_clamp (by omega)]
  exact kk ls H locs h1 h2 h3
theorem fm_zald (hc : fm_Cx p s m args meth c cl b D nL cc own Ts tys) {o j len : Nat} (t0 : Nat) (hd : decode cc pc = .ok (.baload, 1)) (h8 : 8 ≤ o) (hn : o < n) (hl : lay o = (101, len)) (ht : tys[t0]? = some (dA 101, .boolean)) (hj : j < len) (hlen : len < 2 ^ 31)
    (kk : fm_G p l e R s m args below meth c Q lay nf fk cl b x D dA nL (pc + 1) lv (.int (M.1 o j) :: st) n M z) : fm_G p l e R s m args below meth c Q lay nf fk cl b x D dA nL pc lv (.int (nI j) :: .ref o :: st) n M z := by
  intro ls H locs h1 h2 h3
  refine va_zald hc.1 hc.2.1 hc.2.2.2.2.2.1 h2 (o - 8) t0 (by rw [fm_ws_at h8 hn, fm_cell_int hl (by omega) (by omega)]) ht (vp_in_nI hj hlen) hd ?_
  rw [nI_clamp (by omega)]
  exact kk ls H locs h1 h2 h3
theorem fm_bald (hc : fm_Cx p s m args meth c cl b D nL cc own Ts tys) {o j len : Nat} (t0 : Nat) (hd : decode cc pc = .ok (.baload, 1)) (h8 : 8 ≤ o) (hn : o < n) (hl : lay o = (102, len)) (ht : tys[t0]? = some (dA 102, .byte)) (hj : j < len) (hlen : len < 2 ^ 31)
    (kk : fm_G p l e R s m args below meth c Q lay nf fk cl b x D dA nL (pc + 1) lv (.int (M.1 o j) :: st) n M z) : fm_G p l e R s m args below meth c Q lay nf fk cl b x D dA nL pc lv (.int (nI j) :: .ref o :: st) n M z := by
  intro ls H locs h1 h2 h3
  refine va_bald hc.1 hc.2.1 hc.2.2.2.2.2.1 h2 (o - 8) t0 (by rw [fm_ws_at h8 hn, fm_cell_int hl (by omega) (by omega)]) ht (vp_in_nI hj hlen) hd ?_
  rw [nI_clamp (by omega)]
  exact kk ls H locs h1 h2 h3
theorem fm_lald (hc : fm_Cx p s m args meth c cl b D nL cc own Ts tys) {o j len : Nat} (t0 : Nat) (hd : decode cc pc = .ok (.laload, 1)) (h8 : 8 ≤ o) (hn : o < n) (hl : lay o = (110, len)) (ht : tys[t0]? = some (dA 110, .long)) (hj : j < len) (hlen : len < 2 ^ 31)
    (kk : fm_G p l e R s m args below meth c Q lay nf fk cl b x D dA nL (pc + 1) lv (.long (M.2.1 o j) :: st) n M z) : fm_G p l e R s m args below meth c Q lay nf fk cl b x D dA nL pc lv (.int (nI j) :: .ref o :: st) n M z := by
  intro ls H locs h1 h2 h3
  refine va_lald hc.1 hc.2.1 hc.2.2.2.2.2.1 h2 (o - 8) t0 (by rw [fm_ws_at h8 hn, fm_cell_long hl (by omega) (by omega)]) ht (vp_in_nI hj hlen) hd ?_
  rw [nI_clamp (by omega)]
  exact kk ls H locs h1 h2 h3
theorem fm_aald (hc : fm_Cx p s m args meth c cl b D nL cc own Ts tys) {o j len ki q : Nat} {C : String} (t0 : Nat) (hd : decode cc pc = .ok (.aaload, 1)) (h8 : 8 ≤ o) (hn : o < n) (hl : lay o = (ki, len)) (hki : 120 ≤ ki) (ht : tys[t0]? = some (dA ki, .object C)) (hj : j < len) (hlen : len < 2 ^ 31) (hq : M.2.2 o j = some q)
    (kk : fm_G p l e R s m args below meth c Q lay nf fk cl b x D dA nL (pc + 1) lv (.ref q :: st) n M z) : fm_G p l e R s m args below meth c Q lay nf fk cl b x D dA nL pc lv (.int (nI j) :: .ref o :: st) n M z := by
  intro ls H locs h1 h2 h3
  refine va_aldq hc.1 hc.2.1 hc.2.2.2.2.2.1 h2 (o - 8) t0 (by rw [fm_ws_at h8 hn, fm_cell_ref hl hki]) ht (vp_in_nI hj hlen) hd ?_
  rw [nI_clamp (by omega), hq]
  exact kk ls H locs h1 h2 h3
/-- a row of an array of arrays -/
theorem fm_aaldA (hc : fm_Cx p s m args meth c cl b D nL cc own Ts tys) {o j len ki q : Nat} {ty : FieldType} (t0 : Nat) (hd : decode cc pc = .ok (.aaload, 1)) (h8 : 8 ≤ o) (hn : o < n) (hl : lay o = (ki, len)) (hki : 120 ≤ ki) (ht : tys[t0]? = some (dA ki, .array ty)) (hj : j < len) (hlen : len < 2 ^ 31) (hq : M.2.2 o j = some q)
    (kk : fm_G p l e R s m args below meth c Q lay nf fk cl b x D dA nL (pc + 1) lv (.ref q :: st) n M z) : fm_G p l e R s m args below meth c Q lay nf fk cl b x D dA nL pc lv (.int (nI j) :: .ref o :: st) n M z := by
  intro ls H locs h1 h2 h3
  have hP := h2 (o - 8) _ (by rw [fm_ws_at h8 hn, fm_cell_ref hl hki])
  have hin := vp_in_nI hj hlen
  refine W.aald (v := .ref (fm_ad b x q)) (ty := .array ty) hc.1 hc.2.1 hP ((hc.2.2.2.2.2.1.2 t0 _ ht).1 len (fun i => va_rf ((M.2.2 o i).map (fm_ad b x)))) rfl (fun h => by cases h) (by show ¬ (nI j < 0 ∨ (arrV _ _ _).slots.size ≤ _); rw [arrV_size]; exact hin) ?_ rfl rfl hd (kk ls H locs h1 h2 h3)
  show (arrV _ _ _).slots[_]? = _
  rw [nI_clamp (by omega), arrV_read _ _ hj]
  show some (va_rf ((M.2.2 o j).map (fm_ad b x))) = _
  rw [hq]
  rfl
theorem fm_iast (hc : fm_Cx p s m args meth c cl b D nL cc own Ts tys) {o j len : Nat} {v : Int32} (t0 : Nat) (hd : decode cc pc = .ok (.iastore, 1)) (h8 : 8 ≤ o) (hn : o < n) (hl : lay o = (100, len)) (ht : tys[t0]? = some (dA 100, .int)) (hj : j < len) (hlen : len < 2 ^ 31)
    (kk : fm_G p l e R s m args below meth c Q lay nf fk cl b x D dA nL (pc + 1) lv st n (fm_put1 M o j v) z) : fm_G p l e R s m args below meth c Q lay nf fk cl b x D dA nL pc lv (.int v :: .int (nI j) :: .ref o :: st) n M z := by
  intro ls H locs h1 h2 h3
  have hE : fm_cell lay nf fk (fm_ad b x) dA (fm_put1 M o j v) o = .inl (dA 100, len, .inl (upd (M.1 o) (nI j).toNatClampNeg v)) := by
    rw [fm_cell_int hl (by omega) (by omega), nI_clamp (by omega), fm_upI]
    simp [fm_put1, fm_upS]
  have hset := fm_ws_set (lay := lay) (nf := nf) (fk := fk) (b := b) (x := x) (dA := dA) (n := n) (M := M) (M' := fm_put1 M o j v) (o := o) h8 hn hE (fun q _ hq => fm_cell_eq (by simp [fm_put1, va_up, hq]) rfl rfl)
  refine va_iast hc.1 hc.2.1 hc.2.2.2.2.2.1 h2 fm_ws_D h3 (o - 8) t0 (by rw [fm_ws_at h8 hn, fm_cell_int hl (by omega) (by omega)]) ht (vp_in_nI hj hlen) hd (fun H1 locs1 g1 g2 g3 => ?_)
  rw [hset] at g1
  exact kk ls H1 locs1 h1 g1 g3
theorem fm_zast (hc : fm_Cx p s m args meth c cl b D nL cc own Ts tys) {o j len : Nat} {v : Int32} (t0 : Nat) (hd : decode cc pc = .ok (.bastore, 1)) (h8 : 8 ≤ o) (hn : o < n) (hl : lay o = (101, len)) (ht : tys[t0]? = some (dA 101, .boolean)) (hj : j < len) (hlen : len < 2 ^ 31)
    (kk : fm_G p l e R s m args below meth c Q lay nf fk cl b x D dA nL (pc + 1) lv st n (fm_put1 M o j (vp_nar .boolean v)) z) : fm_G p l e R s m args below meth c Q lay nf fk cl b x D dA nL pc lv (.int v :: .int (nI j) :: .ref o :: st) n M z := by
  intro ls H locs h1 h2 h3
  have hE : fm_cell lay nf fk (fm_ad b x) dA (fm_put1 M o j (vp_nar .boolean v)) o = .inl (dA 101, len, .inl (upd (M.1 o) (nI j).toNatClampNeg (vp_nar .boolean v))) := by
    rw [fm_cell_int hl (by omega) (by omega), nI_clamp (by omega), fm_upI]
    simp [fm_put1, fm_upS]
  have hset := fm_ws_set (lay := lay) (nf := nf) (fk := fk) (b := b) (x := x) (dA := dA) (n := n) (M := M) (M' := fm_put1 M o j (vp_nar .boolean v)) (o := o) h8 hn hE (fun q _ hq => fm_cell_eq (by simp [fm_put1, va_up, hq]) rfl rfl)
  refine va_zast hc.1 hc.2.1 hc.2.2.2.2.2.1 h2 fm_ws_D h3 (o - 8) t0 (by rw [fm_ws_at h8 hn, fm_cell_int hl (by omega) (by omega)]) ht (vp_in_nI hj hlen) hd (fun H1 locs1 g1 g2 g3 => ?_)
  rw [hset] at g1
  exact kk ls H1 locs1 h1 g1 g3
theorem fm_bast (hc : fm_Cx p s m args meth c cl b D nL cc own Ts tys) {o j len : Nat} {v : Int32} (t0 : Nat) (hd : decode cc pc = .ok (.bastore, 1)) (h8 : 8 ≤ o) (hn : o < n) (hl : lay o = (102, len)) (ht : tys[t0]? = some (dA 102, .byte)) (hj : j < len) (hlen : len < 2 ^ 31)
    (kk : fm_G p l e R s m args below meth c Q lay nf fk cl b x D dA nL (pc + 1) lv st n (fm_put1 M o j (vp_nar .byte v)) z) : fm_G p l e R s m args below meth c Q lay nf fk cl b x D dA nL pc lv (.int v :: .int (nI j) :: .ref o :: st) n M z := by
  intro ls H locs h1 h2 h3
  have hE : fm_cell lay nf fk (fm_ad b x) dA (fm_put1 M o j (vp_nar .byte v)) o = .inl (dA 102, len, .inl (upd (M.1 o) (nI j).toNatClampNeg (vp_nar .byte v))) := by
    rw [fm_cell_int hl (by omega) (by omega), nI_clamp (by omega), fm_upI]
    simp [fm_put1, fm_upS]
  have hset := fm_ws_set (lay := lay) (nf := nf) (fk := fk) (b := b) (x := x) (dA := dA) (n := n) (M := M) (M' := fm_put1 M o j (vp_nar .byte v)) (o := o) h8 hn hE (fun q _ hq => fm_cell_eq (by simp [fm_put1, va_up, hq]) rfl rfl)
  refine va_bast hc.1 hc.2.1 hc.2.2.2.2.2.1 h2 fm_ws_D h3 (o - 8) t0 (by rw [fm_ws_at h8 hn, fm_cell_int hl (by omega) (by omega)]) ht (vp_in_nI hj hlen) hd (fun H1 locs1 g1 g2 g3 => ?_)
  rw [hset] at g1
  exact kk ls H1 locs1 h1 g1 g3
theorem fm_last (hc : fm_Cx p s m args meth c cl b D nL cc own Ts tys) {o j len : Nat} {v : Int64} (t0 : Nat) (hd : decode cc pc = .ok (.lastore, 1)) (h8 : 8 ≤ o) (hn : o < n) (hl : lay o = (110, len)) (ht : tys[t0]? = some (dA 110, .long)) (hj : j < len) (hlen : len < 2 ^ 31)
    (kk : fm_G p l e R s m args below meth c Q lay nf fk cl b x D dA nL (pc + 1) lv st n (fm_put2 M o j v) z) : fm_G p l e R s m args below meth c Q lay nf fk cl b x D dA nL pc lv (.long v :: .int (nI j) :: .ref o :: st) n M z := by
  intro ls H locs h1 h2 h3
  have hE : fm_cell lay nf fk (fm_ad b x) dA (fm_put2 M o j v) o = .inl (dA 110, len, .inr (.inl (vp_updL (M.2.1 o) (nI j).toNatClampNeg v))) := by
    rw [fm_cell_long hl (by omega) (by omega), nI_clamp (by omega), fm_upL]
    simp [fm_put2, fm_upS]
  have hset := fm_ws_set (lay := lay) (nf := nf) (fk := fk) (b := b) (x := x) (dA := dA) (n := n) (M := M) (M' := fm_put2 M o j v) (o := o) h8 hn hE (fun q _ hq => fm_cell_eq rfl (by simp [fm_put2, va_up, hq]) rfl)
  refine va_last hc.1 hc.2.1 hc.2.2.2.2.2.1 h2 fm_ws_D h3 (o - 8) t0 (by rw [fm_ws_at h8 hn, fm_cell_long hl (by omega) (by omega)]) ht (vp_in_nI hj hlen) hd (fun H1 locs1 g1 g2 g3 => ?_)
  rw [hset] at g1
  exact kk ls H1 locs1 h1 g1 g3
theorem fm_aast (hc : fm_Cx p s m args meth c cl b D nL cc own Ts tys) {o j len ki q ci : Nat} {r : vw_C} (t0 : Nat) (hd : decode cc pc = .ok (.aastore, 1)) (h8 : 8 ≤ o) (hn : o < n) (hl : lay o = (ki, len)) (hki : 120 ≤ ki) (ht : tys[t0]? = some (dA ki, .object r.1)) (hj : j < len) (hlen : len < 2 ^ 31) (hq8 : 8 ≤ q) (hqn : q < n) (hql : (lay q).1 = ci) (hci : ci < 100) (hcl : cl[ci]? = some r)
    (kk : fm_G p l e R s m args below meth c Q lay nf fk cl b x D dA nL (pc + 1) lv st n (fm_put3 M o j (some q)) z) : fm_G p l e R s m args below meth c Q lay nf fk cl b x D dA nL pc lv (.ref q :: .int (nI j) :: .ref o :: st) n M z := by
  intro ls H locs h1 h2 h3
  have hE : fm_cell lay nf fk (fm_ad b x) dA (fm_put3 M o j (some q)) o = .inl (dA ki, len, .inr (.inr (.inr (.inr (va_up (fun i => (M.2.2 o i).map (fm_ad b x)) (nI j).toNatClampNeg (some (fm_ad b x q))))))) := by
    rw [fm_cell_ref hl hki, nI_clamp (by omega)]
    have : (fun i => ((fm_put3 M o j (some q)).2.2 o i).map (fm_ad b x)) = va_up (fun i => (M.2.2 o i).map (fm_ad b x)) j (some (fm_ad b x q)) := by
      funext i
      by_cases hi : i = j
      · subst hi
        simp [fm_put3, va_up]
      · simp [fm_put3, va_up, hi]
    rw [this]
  have hset := fm_ws_set (lay := lay) (nf := nf) (fk := fk) (b := b) (x := x) (dA := dA) (n := n) (M := M) (M' := fm_put3 M o j (some q)) (o := o) h8 hn hE (fun q' _ hq' => fm_cell_eq rfl rfl (by simp [fm_put3, va_up, hq']))
  refine va_astq hc.1 hc.2.1 hc.2.2.2.2.2.1 h2 fm_ws_D h3 (o - 8) t0 (q - 8) ci (by rw [fm_ws_at h8 hn, fm_cell_ref hl hki]) ht (by rw [fm_ws_at hq8 hqn, fm_cell_obj hql hci]) hcl (vp_in_nI hj hlen) hd (fun H1 locs1 g1 g2 g3 => ?_)
  rw [hset] at g1
  exact kk ls H1 locs1 h1 g1 g3
theorem fm_alen (hc : fm_Cx p s m args meth c cl b D nL cc own Ts tys) {o ki len : Nat} {ty : FieldType} {v : Int32} (t0 : Nat) (hd : decode cc pc = .ok (.arraylength, 1)) (h8 : 8 ≤ o) (hn : o < n) (hl : lay o = (ki, len)) (hki : 100 ≤ ki) (ht : tys[t0]? = some (dA ki, ty)) (hv : Int32.ofNat len = v)
    (kk : fm_G p l e R s m args below meth c Q lay nf fk cl b x D dA nL (pc + 1) lv (.int v :: st) n M z) : fm_G p l e R s m args below meth c Q lay nf fk cl b x D dA nL pc lv (.ref o :: st) n M z := by
  intro ls H locs h1 h2 h3
  have hex : ∃ a : vp_A, fm_cell lay nf fk (fm_ad b x) dA M o = .inl (dA ki, a) ∧ a.1 = len := by
    by_cases g1 : ki < 110
    · exact ⟨_, fm_cell_int hl hki g1, rfl⟩
    · by_cases g2 : ki < 120
      · exact ⟨_, fm_cell_long hl (by omega) g2, rfl⟩
      · exact ⟨_, fm_cell_ref hl (by omega), rfl⟩
  obtain ⟨a, ha, hal⟩ := hex
  exact va_alen hc.1 hc.2.1 hc.2.2.2.2.2.1 h2 (o - 8) t0 (by rw [fm_ws_at h8 hn, ha]) ht (by rw [hal]; exact hv) hd (kk ls H locs h1 h2 h3)
/-- tables that lie outside -/
theorem fm_tald (hc : fm_Cx p s m args meth c cl b D nL cc own Ts tys) {o j len : Nat} {f : Nat → Int32} (hd : decode cc pc = .ok (.iaload, 1)) (h8 : o < 8) (hT : va_T .int (x o) len (fun i => .int (f i)) (fm_A b) s s.heap) (hj : j < len) (hlen : len < 2 ^ 31)
    (kk : fm_G p l e R s m args below meth c Q lay nf fk cl b x D dA nL (pc + 1) lv (.int (f j) :: st) n M z) : fm_G p l e R s m args below meth c Q lay nf fk cl b x D dA nL pc lv (.int (nI j) :: .ref o :: st) n M z := by
  intro ls H locs h1 h2 h3
  have ead : fm_ad b x o = x o := if_pos h8
  show W p l e R s m args below meth c H locs z.1 z.2 Q (F0 m pc ls (.int (nI j) :: .ref (fm_ad b x o) :: st.map (fm_v (fm_ad b x))))
  rw [ead]
  exact va_ti (v := .int (f j)) hc.1 hc.2.1 hT h3 (vp_in_nI hj hlen) (by rw [nI_clamp (by omega)]) hd (kk ls H locs h1 h2 h3)
/-- the script, outside -/
theorem fm_sald (hc : fm_Cx p s m args meth c cl b D nL cc own Ts tys) {o j len : Nat} {f : Nat → Int32} (hd : decode cc pc = .ok (.iaload, 1)) (h8 : o < 8) (hX : va_X (x o) len f s s.heap) (hxl : x o < s.heap.size) (hxb : x o < b) (hj : j < len) (hlen : len < 2 ^ 31)
    (kk : fm_G p l e R s m args below meth c Q lay nf fk cl b x D dA nL (pc + 1) lv (.int (f j) :: st) n M z) : fm_G p l e R s m args below meth c Q lay nf fk cl b x D dA nL pc lv (.int (nI j) :: .ref o :: st) n M z := by
  intro ls H locs h1 h2 h3
  have ead : fm_ad b x o = x o := if_pos h8
  show W p l e R s m args below meth c H locs z.1 z.2 Q (F0 m pc ls (.int (nI j) :: .ref (fm_ad b x o) :: st.map (fm_v (fm_ad b x))))
  rw [ead]
  refine va_sld (A := fm_A b) hc.1 hc.2.1 hX hxl (fun h => by have : b ≤ x o := h; omega) h3 (vp_in_nI hj hlen) hd ?_
  rw [nI_clamp (by omega)]
  exact kk ls H locs h1 h2 h3
theorem fm_slen (hc : fm_Cx p s m args meth c cl b D nL cc own Ts tys) {o len : Nat} {f : Nat → Int32} (hd : decode cc pc = .ok (.arraylength, 1)) (h8 : o < 8) (hX : va_X (x o) len f s s.heap) (hxl : x o < s.heap.size) (hxb : x o < b)
    (kk : fm_G p l e R s m args below meth c Q lay nf fk cl b x D dA nL (pc + 1) lv (.int (nI len) :: st) n M z) : fm_G p l e R s m args below meth c Q lay nf fk cl b x D dA nL pc lv (.ref o :: st) n M z := by
  intro ls H locs h1 h2 h3
  have ead : fm_ad b x o = x o := if_pos h8
  show W p l e R s m args below meth c H locs z.1 z.2 Q (F0 m pc ls (.ref (fm_ad b x o) :: st.map (fm_v (fm_ad b x))))
  rw [ead]
  exact va_slen (A := fm_A b) hc.1 hc.2.1 hX hxl (fun h => by have : b ≤ x o := h; omega) h3 hd (kk ls H locs h1 h2 h3)
def fm_clr (M : fm_M) (o : Nat) : fm_M := (va_up M.1 o (fun _ => 0), va_up M.2.1 o (fun _ => 0), va_up M.2.2 o (fun _ => none))
/-- the world with one cell more -/
theorem fm_ws_more {H H1 : Heap} (h8 : 8 ≤ n) (h2 : va_P D cl (fm_ws lay nf fk b x dA n M) H) (hk : ∀ q, q < H.size → H1[q]? = H[q]?) (hnew : va_at D cl (b + (n - 8), fm_cell lay nf fk (fm_ad b x) dA (fm_clr M n) n) H1) :
    va_P D cl (fm_ws lay nf fk b x dA (n + 1) (fm_clr M n)) H1 := by
  intro i q hi
  have hil : i < n + 1 - 8 := by
    have := (List.getElem?_eq_some_iff.mp hi).1
    simpa [fm_ws] using this
  have hq : q = (fm_ad b x (i + 8), fm_cell lay nf fk (fm_ad b x) dA (fm_clr M n) (i + 8)) := by
    have h := fm_ws_at (lay := lay) (nf := nf) (fk := fk) (b := b) (x := x) (dA := dA) (n := n + 1) (M := fm_clr M n) (o := i + 8) (by omega) (by omega)
    rw [show i + 8 - 8 = i by omega, hi] at h
    exact Option.some.inj h
  subst hq
  by_cases hin : i + 8 = n
  · rw [hin, fm_ad_in h8]
    exact hnew
  · have h := h2 i (fm_ad b x (i + 8), fm_cell lay nf fk (fm_ad b x) dA M (i + 8)) (by
      have h := fm_ws_at (lay := lay) (nf := nf) (fk := fk) (b := b) (x := x) (dA := dA) (n := n) (M := M) (o := i + 8) (by omega) (by omega)
      rw [show i + 8 - 8 = i by omega] at h
      exact h)
    rw [fm_cell_eq (M := M) (by simp [fm_clr, va_up, hin]) (by simp [fm_clr, va_up, hin]) (by simp [fm_clr, va_up, hin])]
    exact h.kept (hk _ h.lt)
/-- a heap that holds all of the world, and no more than has been counted -/
theorem fm_tight {T : State} {H : Heap} {locs : List Loc} {k1 k2 : Nat} (X : Stand p l e R s m args below meth c T locs k1 k2) (hT : T.heap = H) (h2 : va_P D cl (fm_ws lay nf fk b x dA n M) H) (hb : b ≤ s.heap.size) (hS : va_S (fm_A b) s.heap H locs) (ht : s.heap.size + k1 = b + (n - 8)) : H.size = b + (n - 8) := by
  have h1 := X.heapSize
  rw [hT] at h1
  by_cases h : 8 < n
  · have hc := (h2 (n - 1 - 8) _ (fm_ws_at (o := n - 1) (by omega) (by omega))).lt
    rw [fm_ad_in (by omega)] at hc
    have : b + (n - 1 - 8) < H.size := hc
    omega
  · have h4 := hS.1
    omega
theorem fm_new (hc : fm_Cx p s m args meth c cl b D nL cc own Ts tys) {ci idx N : Nat} {C : String} {T : u_T} {ty0 : Nat → FieldType} (hk : fm_Kc Ts cl nf ci C T N ty0) (hd : decode cc pc = .ok (.new idx, 3)) (hw : Cond.classLink own idx C ∈ Ts) (hi : Cond.instantiable C N ∈ Ts) (hini : Cond.initialized C ∈ Ts) (h8 : 8 ≤ n) (hl : (lay n).1 = ci) (hlt : ci < 100)
    (hdf : ∀ j, j < N → (fk ci j = 0 ∧ defaultValue (ty0 j) = .int 0) ∨ (fk ci j = 1 ∧ defaultValue (ty0 j) = .long 0) ∨ (fk ci j = 2 ∧ defaultValue (ty0 j) = .null)) (ht : s.heap.size + z.1 = b + (n - 8)) (hcells : z.1 + 1 ≤ R.cells) (hslots : z.2 + N ≤ R.slots)
    (kk : fm_G p l e R s m args below meth c Q lay nf fk cl b x D dA nL (pc + 3) lv (.ref n :: st) (n + 1) (fm_clr M n) (z.1 + 1, z.2 + N)) : fm_G p l e R s m args below meth c Q lay nf fk cl b x D dA nL pc lv st n M z := by
  intro ls H locs h1 h2 h3 T0 hT X
  have hsz := fm_tight X hT h2 hc.2.2.2.2.2.2.1 h3 ht
  have hKn := hc.2.2.2.2.2.1.1 ci _ hk.1
  refine W.newcK hc.1 hc.2.1 hc.2.2.2.1 (hc.2.2.2.2.1 _ hw) (hc.2.2.2.2.1 _ hi) (hc.2.2.2.2.1 _ hini) (g := F0 m pc ls (st.map (fm_v (fm_ad b x)))) rfl hd hcells hslots hKn.2.1 hsz (fun H1 kC hkC e1 z1 o1 => ?_) T0 hT X
  have hP1 : va_P D cl (fm_ws lay nf fk b x dA (n + 1) (fm_clr M n)) H1 := by
    refine fm_ws_more h8 h2 (fun q hq => o1 q (by omega)) ?_
    rw [fm_cell_obj hl hlt]
    refine ⟨_, hk.1, (u_born ty0 hc.2.2.2.2.1 hk.2.2.1 hKn hkC e1 hk.2.2.2.1).to (fun j hj => ?_)⟩
    show defaultValue (ty0 j) = vp_V ((List.range (nf ci)).map (fm_fv fk (fm_ad b x) (fm_clr M n) ci n)) j
    have hfs : ((List.range (nf ci)).map (fm_fv fk (fm_ad b x) (fm_clr M n) ci n))[j]? = some (fm_fv fk (fm_ad b x) (fm_clr M n) ci n j) := by
      rw [hk.2.1, List.getElem?_map, List.getElem?_range hj]
      rfl
    unfold vp_V
    rw [List.getD_eq_getElem?_getD, hfs]
    show _ = fm_fv fk (fm_ad b x) (fm_clr M n) ci n j
    unfold fm_fv
    rcases hdf j hj with ⟨g1, g2⟩ | ⟨g1, g2⟩ | ⟨g1, g2⟩
    · rw [g1, g2]; simp [fm_clr, va_up]
    · rw [g1, g2]; simp [fm_clr, va_up]
    · rw [g1, g2]; simp [fm_clr, va_up, va_rf]
  have hg := kk ls H1 locs h1 hP1 ⟨Nat.le_trans h3.1 (by omega), fun q g1 g2 => (o1 q (by have := h3.1; omega)).trans (h3.2.1 q g1 g2), h3.2.2⟩
  have ead : fm_ad b x n = b + (n - 8) := fm_ad_in h8
  simp only [List.map_cons, fm_v, ead] at hg
  exact hg
theorem fm_newI (hc : fm_Cx p s m args meth c cl b D nL cc own Ts tys) {len : Nat} (t0 : Nat) (hd : decode cc pc = .ok (.newarray .int, 2)) (hw : Cond.arrayClass .int ∈ Ts) (h8 : 8 ≤ n) (hl : lay n = (100, len)) (ht0 : tys[t0]? = some (dA 100, .int)) (hlen : len < 100000) (ht : s.heap.size + z.1 = b + (n - 8)) (hcells : z.1 + 1 ≤ R.cells) (hslots : z.2 + len ≤ R.slots)
    (kk : fm_G p l e R s m args below meth c Q lay nf fk cl b x D dA nL (pc + 2) lv (.ref n :: st) (n + 1) (fm_clr M n) (z.1 + 1, z.2 + len)) : fm_G p l e R s m args below meth c Q lay nf fk cl b x D dA nL pc lv (.int (nI len) :: st) n M z := by
  intro ls H locs h1 h2 h3 T0 hT X
  have hsz := fm_tight X hT h2 hc.2.2.2.2.2.2.1 h3 ht
  have hbytes : len * componentBytes .int ≤ 536870912 := by
    have hb8 : componentBytes .int ≤ 8 := by decide
    exact Nat.le_trans (Nat.mul_le_mul_left len hb8) (by omega)
  refine va_newaK (atype := .int) hc.1 hc.2.1 (hc.2.2.2.2.1 _ hw) (g := F0 m pc ls (.int (nI len) :: st.map (fm_v (fm_ad b x)))) rfl hd rfl (nI_pos (by omega)) (nI_clamp (by omega)) hbytes hcells hslots hsz (fun H1 cA e1 z1 o1 hAr hNm => ?_) T0 hT X
  have hcA : cA = dA 100 := by
    have h := (hc.2.2.2.2.2.1.2 t0 _ ht0).2
    exact Option.some.inj (hNm.symm.trans h)
  subst hcA
  have hP1 : va_P D cl (fm_ws lay nf fk b x dA (n + 1) (fm_clr M n)) H1 := by
    refine fm_ws_more h8 h2 (fun q hq => o1 q (by omega)) ?_
    rw [fm_cell_int hl (by omega) (by omega)]
    show H1[b + (n - 8)]? = some (vp_cell _ _)
    rw [e1]
    simp [fm_clr, va_up, vp_cell, newarray.typeOf, defaultValue]
  have hg := kk ls H1 locs h1 hP1 ⟨Nat.le_trans h3.1 (by omega), fun q g1 g2 => (o1 q (by have := h3.1; omega)).trans (h3.2.1 q g1 g2), h3.2.2⟩
  have ead : fm_ad b x n = b + (n - 8) := fm_ad_in h8
  simp only [List.map_cons, fm_v, ead] at hg
  exact hg
theorem fm_newZ (hc : fm_Cx p s m args meth c cl b D nL cc own Ts tys) {len : Nat} (t0 : Nat) (hd : decode cc pc = .ok (.newarray .boolean, 2)) (hw : Cond.arrayClass .boolean ∈ Ts) (h8 : 8 ≤ n) (hl : lay n = (101, len)) (ht0 : tys[t0]? = some (dA 101, .boolean)) (hlen : len < 100000) (ht : s.heap.size + z.1 = b + (n - 8)) (hcells : z.1 + 1 ≤ R.cells) (hslots : z.2 + len ≤ R.slots)
    (kk : fm_G p l e R s m args below meth c Q lay nf fk cl b x D dA nL (pc + 2) lv (.ref n :: st) (n + 1) (fm_clr M n) (z.1 + 1, z.2 + len)) : fm_G p l e R s m args below meth c Q lay nf fk cl b x D dA nL pc lv (.int (nI len) :: st) n M z := by
  intro ls H locs h1 h2 h3 T0 hT X
  have hsz := fm_tight X hT h2 hc.2.2.2.2.2.2.1 h3 ht
  have hbytes : len * componentBytes .boolean ≤ 536870912 := by
    have hb8 : componentBytes .boolean ≤ 8 := by decide
    exact Nat.le_trans (Nat.mul_le_mul_left len hb8) (by omega)
  refine va_newaK (atype := .boolean) hc.1 hc.2.1 (hc.2.2.2.2.1 _ hw) (g := F0 m pc ls (.int (nI len) :: st.map (fm_v (fm_ad b x)))) rfl hd rfl (nI_pos (by omega)) (nI_clamp (by omega)) hbytes hcells hslots hsz (fun H1 cA e1 z1 o1 hAr hNm => ?_) T0 hT X
  have hcA : cA = dA 101 := by
    have h := (hc.2.2.2.2.2.1.2 t0 _ ht0).2
    exact Option.some.inj (hNm.symm.trans h)
  subst hcA
  have hP1 : va_P D cl (fm_ws lay nf fk b x dA (n + 1) (fm_clr M n)) H1 := by
    refine fm_ws_more h8 h2 (fun q hq => o1 q (by omega)) ?_
    rw [fm_cell_int hl (by omega) (by omega)]
    show H1[b + (n - 8)]? = some (vp_cell _ _)
    rw [e1]
    simp [fm_clr, va_up, vp_cell, newarray.typeOf, defaultValue]
  have hg := kk ls H1 locs h1 hP1 ⟨Nat.le_trans h3.1 (by omega), fun q g1 g2 => (o1 q (by have := h3.1; omega)).trans (h3.2.1 q g1 g2), h3.2.2⟩
  have ead : fm_ad b x n = b + (n - 8) := fm_ad_in h8
  simp only [List.map_cons, fm_v, ead] at hg
  exact hg
theorem fm_newB (hc : fm_Cx p s m args meth c cl b D nL cc own Ts tys) {len : Nat} (t0 : Nat) (hd : decode cc pc = .ok (.newarray .byte, 2)) (hw : Cond.arrayClass .byte ∈ Ts) (h8 : 8 ≤ n) (hl : lay n = (102, len)) (ht0 : tys[t0]? = some (dA 102, .byte)) (hlen : len < 100000) (ht : s.heap.size + z.1 = b + (n - 8)) (hcells : z.1 + 1 ≤ R.cells) (hslots : z.2 + len ≤ R.slots)
    (kk : fm_G p l e R s m args below meth c Q lay nf fk cl b x D dA nL (pc + 2) lv (.ref n :: st) (n + 1) (fm_clr M n) (z.1 + 1, z.2 + len)) : fm_G p l e R s m args below meth c Q lay nf fk cl b x D dA nL pc lv (.int (nI len) :: st) n M z := by
  intro ls H locs h1 h2 h3 T0 hT X
  have hsz := fm_tight X hT h2 hc.2.2.2.2.2.2.1 h3 ht
  have hbytes : len * componentBytes .byte ≤ 536870912 := by
    have hb8 : componentBytes .byte ≤ 8 := by decide
    exact Nat.le_trans (Nat.mul_le_mul_left len hb8) (by omega)
  refine va_newaK (atype := .byte) hc.1 hc.2.1 (hc.2.2.2.2.1 _ hw) (g := F0 m pc ls (.int (nI len) :: st.map (fm_v (fm_ad b x)))) rfl hd rfl (nI_pos (by omega)) (nI_clamp (by omega)) hbytes hcells hslots hsz (fun H1 cA e1 z1 o1 hAr hNm => ?_) T0 hT X
  have hcA : cA = dA 102 := by
    have h := (hc.2.2.2.2.2.1.2 t0 _ ht0).2
    exact Option.some.inj (hNm.symm.trans h)
  subst hcA
  have hP1 : va_P D cl (fm_ws lay nf fk b x dA (n + 1) (fm_clr M n)) H1 := by
    refine fm_ws_more h8 h2 (fun q hq => o1 q (by omega)) ?_
    rw [fm_cell_int hl (by omega) (by omega)]
    show H1[b + (n - 8)]? = some (vp_cell _ _)
    rw [e1]
    simp [fm_clr, va_up, vp_cell, newarray.typeOf, defaultValue]
  have hg := kk ls H1 locs h1 hP1 ⟨Nat.le_trans h3.1 (by omega), fun q g1 g2 => (o1 q (by have := h3.1; omega)).trans (h3.2.1 q g1 g2), h3.2.2⟩
  have ead : fm_ad b x n = b + (n - 8) := fm_ad_in h8
  simp only [List.map_cons, fm_v, ead] at hg
  exact hg
theorem fm_newL (hc : fm_Cx p s m args meth c cl b D nL cc own Ts tys) {len : Nat} (t0 : Nat) (hd : decode cc pc = .ok (.newarray .long, 2)) (hw : Cond.arrayClass .long ∈ Ts) (h8 : 8 ≤ n) (hl : lay n = (110, len)) (ht0 : tys[t0]? = some (dA 110, .long)) (hlen : len < 100000) (ht : s.heap.size + z.1 = b + (n - 8)) (hcells : z.1 + 1 ≤ R.cells) (hslots : z.2 + len ≤ R.slots)
    (kk : fm_G p l e R s m args below meth c Q lay nf fk cl b x D dA nL (pc + 2) lv (.ref n :: st) (n + 1) (fm_clr M n) (z.1 + 1, z.2 + len)) : fm_G p l e R s m args below meth c Q lay nf fk cl b x D dA nL pc lv (.int (nI len) :: st) n M z := by
  intro ls H locs h1 h2 h3 T0 hT X
  have hsz := fm_tight X hT h2 hc.2.2.2.2.2.2.1 h3 ht
  have hbytes : len * componentBytes .long ≤ 536870912 := by
    have hb8 : componentBytes .long ≤ 8 := by decide
    exact Nat.le_trans (Nat.mul_le_mul_left len hb8) (by omega)
  refine va_newaK (atype := .long) hc.1 hc.2.1 (hc.2.2.2.2.1 _ hw) (g := F0 m pc ls (.int (nI len) :: st.map (fm_v (fm_ad b x)))) rfl hd rfl (nI_pos (by omega)) (nI_clamp (by omega)) hbytes hcells hslots hsz (fun H1 cA e1 z1 o1 hAr hNm => ?_) T0 hT X
  have hcA : cA = dA 110 := by
    have h := (hc.2.2.2.2.2.1.2 t0 _ ht0).2
    exact Option.some.inj (hNm.symm.trans h)
  subst hcA
  have hP1 : va_P D cl (fm_ws lay nf fk b x dA (n + 1) (fm_clr M n)) H1 := by
    refine fm_ws_more h8 h2 (fun q hq => o1 q (by omega)) ?_
    rw [fm_cell_long hl (by omega) (by omega)]
    show H1[b + (n - 8)]? = some (vp_cell _ _)
    rw [e1]
    simp [fm_clr, va_up, vp_cell, newarray.typeOf, defaultValue]
  have hg := kk ls H1 locs h1 hP1 ⟨Nat.le_trans h3.1 (by omega), fun q g1 g2 => (o1 q (by have := h3.1; omega)).trans (h3.2.1 q g1 g2), h3.2.2⟩
  have ead : fm_ad b x n = b + (n - 8) := fm_ad_in h8
  simp only [List.map_cons, fm_v, ead] at hg
  exact hg
theorem fm_newR (hc : fm_Cx p s m args meth c cl b D nL cc own Ts tys) {len ki idx : Nat} {C : String} (t0 : Nat) (hd : decode cc pc = .ok (.anewarray idx, 3)) (hw : Cond.classLink own idx C ∈ Ts) (hov : (Cond.arrayOver (.object C)).before args s = true) (h8 : 8 ≤ n) (hl : lay n = (ki, len)) (hki : 120 ≤ ki) (ht0 : tys[t0]? = some (dA ki, .object C)) (hlen : len < 100000) (ht : s.heap.size + z.1 = b + (n - 8)) (hcells : z.1 + 1 ≤ R.cells) (hslots : z.2 + len ≤ R.slots)
    (kk : fm_G p l e R s m args below meth c Q lay nf fk cl b x D dA nL (pc + 3) lv (.ref n :: st) (n + 1) (fm_clr M n) (z.1 + 1, z.2 + len)) : fm_G p l e R s m args below meth c Q lay nf fk cl b x D dA nL pc lv (.int (nI len) :: st) n M z := by
  intro ls H locs h1 h2 h3 T0 hT X
  have hsz := fm_tight X hT h2 hc.2.2.2.2.2.2.1 h3 ht
  have hcl : (nI len).toNatClampNeg = len := nI_clamp (by omega)
  refine W.anew hc.1 hc.2.1 hc.2.2.2.1 (hc.2.2.2.2.1 _ hw) hov (g := F0 m pc ls (.int (nI len) :: st.map (fm_v (fm_ad b x)))) rfl hd rfl (nI_pos (by omega)) (by rw [hcl]; omega) hcells (by rw [hcl]; exact hslots) (fun cA kA comp f1 f2 f3 f4 => ?_) T0 hT X
  have hcA : cA = dA ki := by
    obtain ⟨kA', comp', k1, k2, k3, k4⟩ := (hc.2.2.2.2.2.1.2 t0 _ ht0).2
    exact Option.some.inj (f1.symm.trans k4)
  subst hcA
  rw [hcl]
  generalize hH1 : H.push ({ cls := dA ki, slots := Array.replicate len .null, vm := .none } : Cell) = H1
  have z1 : H1.size = H.size + 1 := by rw [← hH1, Array.size_push]
  have e1 : H1[H.size]? = some (arrV (dA ki) len (fun _ => .null)) := by rw [← hH1, Array.getElem?_push_size, ← arrV_new]
  have o1 : ∀ q : Nat, q < H.size → H1[q]? = H[q]? := fun q hq => by rw [← hH1, Array.getElem?_push, if_neg (Nat.ne_of_lt hq)]
  have hP1 : va_P D cl (fm_ws lay nf fk b x dA (n + 1) (fm_clr M n)) H1 := by
    refine fm_ws_more h8 h2 o1 ?_
    rw [fm_cell_ref hl hki, ← hsz]
    show H1[H.size]? = some (vp_cell _ _)
    rw [e1, vp_cell_q]
    simp [fm_clr, va_up, va_rf]
  have hg := kk ls H1 locs h1 hP1 ⟨Nat.le_trans h3.1 (by omega), fun q g1 g2 => (o1 q (by have := h3.1; omega)).trans (h3.2.1 q g1 g2), h3.2.2⟩
  have ead : fm_ad b x n = b + (n - 8) := fm_ad_in h8
  simp only [List.map_cons, fm_v, ead, ← hsz] at hg
  exact hg
end FMA
