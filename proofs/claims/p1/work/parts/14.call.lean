/-! CONTRACTS over flat memory, calls and answers -/
/-- a method's start: its arguments, the world of n ids, what lies outside -/
def fm_Pc (lay : Nat → Nat × Nat) (nf : Nat → Nat) (fk : Nat → Nat → Nat) (cl : List vw_C) (b : Nat) (x : Nat → Nat) (D : va_G) (dA : Nat → ClassId) (tys : List (ClassId × FieldType)) (EX : State → Prop) (tg : Bool) (av : List Value) (n : Nat) (M : fm_M) : Array Value → State → Prop := fun v U =>
  v = (av.map (fm_v (fm_ad b x))).toArray ∧ va_P D cl (fm_ws lay nf fk b x dA n M) U.heap ∧ va_K D cl tys U ∧ b ≤ U.heap.size ∧ EX U ∧ (tg = true → U.heap.size = b + (n - 8))
/-- its end: it returns, with the answer and the world that 'post' allows; nothing below b has changed -/
def fm_Qc (lay : Nat → Nat × Nat) (nf : Nat → Nat) (fk : Nat → Nat → Nat) (cl : List vw_C) (b : Nat) (x : Nat → Nat) (D : va_G) (dA : Nat → ClassId) (post : Option Value → Nat → fm_M → Prop) : Array Value → State → Outcome → State → Prop := fun _ st oc t =>
  (∃ (r : Option Value) (n' : Nat) (M' : fm_M), oc = .returned (r.map (fm_v (fm_ad b x))) ∧ post r n' M' ∧ va_P D cl (fm_ws lay nf fk b x dA n' M') t.heap) ∧ va_F (fm_A b) st t
/-- what lies outside stays so while nothing below b is written -/
def fm_St (b : Nat) (EX : State → Prop) : Prop := ∀ u U : State, u.WarmedH U.vm → (∀ a : Nat, a < u.heap.size → ¬ fm_A b a → U.heap[a]? = u.heap[a]?) → EX u → EX U
def fm_gw (w : Cond) : Prop := (w.onTables && w.keeps) = true ∨ ∃ ty, w = .arrayClass ty
section FMC
variable {p : Program} {l : Launch} {e : Env} {R : Room} {s : State} {m : MethodId} {args : Array Value} {below : List Frame} {meth : Method} {c : Code} {Q : State → Prop}
variable {lay : Nat → Nat × Nat} {nf : Nat → Nat} {fk : Nat → Nat → Nat} {cl : List vw_C} {b : Nat} {x : Nat → Nat} {D : va_G} {dA : Nat → ClassId} {nL : Nat} {cc : ByteArray} {own : String} {Ts : List Cond} {tys : List (ClassId × FieldType)}
variable {pc : Nat} {lv lv' : List (Nat × Value)} {st : List Value} {n : Nat} {M : fm_M} {z : Nat × Nat} {EX : State → Prop}
theorem fm_blind (hst : fm_St b EX) {tg : Bool} {av : List Value} : FrameBlind (fm_Pc lay nf fk cl b x D dA tys EX tg av n M) := by
  intro a U g mk h
  obtain ⟨h1, h2, h3, h4, h5, h6⟩ := h
  exact ⟨h1, h2, va_K.moved (u := U) (U := U.calling g mk a) (Vm.Alike.refl U.vm) h3, h4, hst U (U.calling g mk a) (State.WarmedH.refl U) (fun _ _ _ => rfl) h5, h6⟩
/-- a method's contract out of the walk of its body -/
theorem fm_enter {y : MethodName} {Ts0 : List Cond} {rm : Room} {maxL : Nat} {ret : Option FieldType} {tg : Bool} {av : List Value} {post : Option Value → Nat → fm_M → Prop} {mc ms : Nat} (hy : plainName y.cls = true) (hlen : (lg_sl (av.map (fm_v (fm_ad b x)))).length ≤ maxL)
    (body : ∀ (p : Program) (e : Env) (s : State) (m : MethodId) (args : Array Value) (below : List Frame) (meth : Method) (c : Code), fm_Cx p s m args meth c cl b D maxL cc y.cls Ts0 tys → meth.sig.returnType = ret → meth.name = y.name → EX s → (tg = true → s.heap.size = b + (n - 8)) →
      fm_G p l e (headSpec (Cond.code y cc maxL ret :: Ts0) rm).room s m args below meth c (MQ below (fm_Qc lay nf fk cl b x D dA post) args s mc ms (fm_A b)) lay nf fk cl b x D dA maxL 0 (lv_args 0 av) [] n M (0, 0)) :
    Met l y (Cond.code y cc maxL ret :: Ts0) rm (fm_Pc lay nf fk cl b x D dA tys EX tg av n M) (fm_Qc lay nf fk cl b x D dA post) mc ms (fm_A b) := by
  refine Met.ofW (cc := cc) (maxL := maxL) (ret := ret) hy rfl ?_
  intro p e s m args below meth c s₁ B hml hv
  obtain ⟨rfl, hP, hK, hbs, hex, htg⟩ := hv
  have hts := atoms_spec (ws := Cond.code y cc maxL ret :: Ts0) B.pre
  have hown : s.vm.findClass y.cls = some m.cls := findClass_of_methodNamed B.named
  have hnm : meth.name = y.name := (name_of_methodNamed B.named B.method).1
  have hg := body p e s m _ below meth c ⟨B.exec, B.bytes, hml, hown, fun w hw => hts w (List.mem_cons_of_mem _ hw), hK, hbs, B.notSynchronized⟩ B.returns hnm hex htg
  have hl := lv_entry (av.map (fm_v (fm_ad b x))) (n := maxL) hlen
  rw [lg_entry_eq]
  have hlv : lv_args 0 (av.map (fm_v (fm_ad b x))) = fm_lv (fm_ad b x) (lv_args 0 av) := by
    have key : ∀ (vs : List Value) (i : Nat), lv_args i (vs.map (fm_v (fm_ad b x))) = fm_lv (fm_ad b x) (lv_args i vs) := by
      intro vs
      induction vs with
      | nil => intro i; rfl
      | cons v t ih =>
        intro i
        show (i, fm_v (fm_ad b x) v) :: lv_args (if (fm_v (fm_ad b x) v).category = 2 then i + 2 else i + 1) (t.map (fm_v (fm_ad b x))) = (i, fm_v (fm_ad b x) v) :: fm_lv (fm_ad b x) (lv_args (if v.category = 2 then i + 2 else i + 1) t)
        rw [fm_v_cat, ih]
    exact key av 0
  rw [hlv] at hl
  exact hg _ s.heap [] hl hP va_S.rf
theorem fm_iret (hc : fm_Cx p s m args meth c cl b D nL cc own Ts tys) {post : Option Value → Nat → fm_M → Prop} {mc ms : Nat} {v : Int32} (hr : meth.sig.returnType = some .int) (hd : decode cc pc = .ok (.ireturn, 1)) (h1z : z.1 ≤ mc) (h2z : z.2 ≤ ms) (hp : post (some (.int v)) n M) : fm_G p l e R s m args below meth c (MQ below (fm_Qc lay nf fk cl b x D dA post) args s mc ms (fm_A b)) lay nf fk cl b x D dA nL pc lv ([.int v]) n M z := by
  intro ls H locs h1 h2 h3
  refine W.widen (k := mc) (n := ms) h1z h2z ?_
  have hlocks := hc.2.2.2.2.2.2.2
  exact W.iret hc.1 hc.2.1 hr (fun t ht _ => ⟨⟨some (.int v), n, M, rfl, hp, by rw [ht]; exact h2⟩, h3.F ht⟩) h3.2.2 hd
theorem fm_zret (hc : fm_Cx p s m args meth c cl b D nL cc own Ts tys) {post : Option Value → Nat → fm_M → Prop} {mc ms : Nat} {v : Int32} {ty : FieldType} (hr : meth.sig.returnType = some ty) (hna : narrow ty (.int v) = .int v) (hd : decode cc pc = .ok (.ireturn, 1)) (h1z : z.1 ≤ mc) (h2z : z.2 ≤ ms) (hp : post (some (.int v)) n M) : fm_G p l e R s m args below meth c (MQ below (fm_Qc lay nf fk cl b x D dA post) args s mc ms (fm_A b)) lay nf fk cl b x D dA nL pc lv ([.int v]) n M z := by
  intro ls H locs h1 h2 h3
  refine W.widen (k := mc) (n := ms) h1z h2z ?_
  have hlocks := hc.2.2.2.2.2.2.2
  exact W.zret hc.1 hc.2.1 hr hna (fun t ht _ => ⟨⟨some (.int v), n, M, rfl, hp, by rw [ht]; exact h2⟩, h3.F ht⟩) h3.2.2 hd
theorem fm_lret (hc : fm_Cx p s m args meth c cl b D nL cc own Ts tys) {post : Option Value → Nat → fm_M → Prop} {mc ms : Nat} {v : Int64} (hr : meth.sig.returnType = some .long) (hd : decode cc pc = .ok (.lreturn, 1)) (h1z : z.1 ≤ mc) (h2z : z.2 ≤ ms) (hp : post (some (.long v)) n M) : fm_G p l e R s m args below meth c (MQ below (fm_Qc lay nf fk cl b x D dA post) args s mc ms (fm_A b)) lay nf fk cl b x D dA nL pc lv ([.long v]) n M z := by
  intro ls H locs h1 h2 h3
  refine W.widen (k := mc) (n := ms) h1z h2z ?_
  have hlocks := hc.2.2.2.2.2.2.2
  exact W.lret hc.1 hc.2.1 hr (fun t ht _ => ⟨⟨some (.long v), n, M, rfl, hp, by rw [ht]; exact h2⟩, h3.F ht⟩) h3.2.2 hd
theorem fm_vret (hc : fm_Cx p s m args meth c cl b D nL cc own Ts tys) {post : Option Value → Nat → fm_M → Prop} {mc ms : Nat} (hr : meth.sig.returnType = none) (hd : decode cc pc = .ok (.return_, 1)) (h1z : z.1 ≤ mc) (h2z : z.2 ≤ ms) (hp : post (none) n M) : fm_G p l e R s m args below meth c (MQ below (fm_Qc lay nf fk cl b x D dA post) args s mc ms (fm_A b)) lay nf fk cl b x D dA nL pc lv ([]) n M z := by
  intro ls H locs h1 h2 h3
  refine W.widen (k := mc) (n := ms) h1z h2z ?_
  have hlocks := hc.2.2.2.2.2.2.2
  exact W.vret hc.1 hc.2.1 hr (fun t ht _ => ⟨⟨none, n, M, rfl, hp, by rw [ht]; exact h2⟩, h3.F ht⟩) h3.2.2 hd
theorem fm_aret (hc : fm_Cx p s m args meth c cl b D nL cc own Ts tys) {post : Option Value → Nat → fm_M → Prop} {mc ms : Nat} {v : Nat} {C : String} (hr : meth.sig.returnType = some (.object C)) (hd : decode cc pc = .ok (.areturn, 1)) (h1z : z.1 ≤ mc) (h2z : z.2 ≤ ms) (hp : post (some (.ref v)) n M) : fm_G p l e R s m args below meth c (MQ below (fm_Qc lay nf fk cl b x D dA post) args s mc ms (fm_A b)) lay nf fk cl b x D dA nL pc lv ([.ref v]) n M z := by
  intro ls H locs h1 h2 h3
  refine W.widen (k := mc) (n := ms) h1z h2z ?_
  have hlocks := hc.2.2.2.2.2.2.2
  exact W.aret hc.1 hc.2.1 hr (Or.inl ⟨_, rfl⟩) (Or.inr ⟨_, rfl⟩) (fun t ht _ => ⟨⟨some (.ref v), n, M, rfl, hp, by rw [ht]; exact h2⟩, h3.F ht⟩) h3.2.2 hd
/-- behind a call -/
theorem fm_behind {H : Heap} {locs : List Loc} {ls : Array Slot} {st0 rest : List Value} {a : Array Value} {post : Option Value → Nat → fm_M → Prop} {mc ms : Nat} (hr : va_Run p l e R s m args below meth c H locs z.1 z.2 mc ms (F0 m pc ls st0) (rest.map (fm_v (fm_ad b x))) (fm_Qc lay nf fk cl b x D dA post a) (fm_A b)) (h1 : lv_has ls nL (fm_lv (fm_ad b x) lv)) (h3 : va_S (fm_A b) s.heap H locs)
    (kk : ∀ (r : Option Value) (n' : Nat) (M' : fm_M), post r n' M' → fm_G p l e R s m args below meth c Q lay nf fk cl b x D dA nL (pc + 3) lv (r.toList ++ rest) n' M' (z.1 + mc, z.2 + ms)) : W p l e R s m args below meth c H locs z.1 z.2 Q (F0 m pc ls st0) := by
  intro T hT X
  obtain ⟨v, st₀, t, T', L, h0, X', hL, e1, e2, ⟨⟨r, n', M', hv, hp, hw⟩, hz, hk⟩, st⟩ := hr T hT X
  cases hv
  rw [h0] at hz hk
  have hg := kk r n' M' hp ls T'.heap (locs ++ L) h1 (by rw [e1]; exact hw) ⟨Nat.le_trans h3.1 (by rw [e1]; exact hz), fun q g1 g2 => by rw [e1, hk q (Nat.lt_of_lt_of_le g1 h3.1) g2]; exact h3.2.1 q g1 g2, fun q hq => by
    rcases List.mem_append.mp hq with h | h
    · exact h3.2.2 q h
    · exact hL q h⟩
  have es : (r.toList ++ rest).map (fm_v (fm_ad b x)) = (r.map (fm_v (fm_ad b x))).toList ++ rest.map (fm_v (fm_ad b x)) := by cases r <;> rfl
  rw [es] at hg
  obtain ⟨t2, a1, b1⟩ := hg T' rfl X'
  exact ⟨t2, st t2 a1, b1⟩
theorem fm_pre {H : Heap} {locs : List Loc} {tg : Bool} {av : List Value} (hst : fm_St b EX) (hex : EX s) (hK : va_K D cl tys s) (hbs : b ≤ s.heap.size) (h2 : va_P D cl (fm_ws lay nf fk b x dA n M) H) (h3 : va_S (fm_A b) s.heap H locs) (htg : tg = true → H.size = b + (n - 8)) : ∀ U : State, U.heap = H → s.WarmedH U.vm → fm_Pc lay nf fk cl b x D dA tys EX tg av n M (av.map (fm_v (fm_ad b x))).toArray U := by
  intro U hU hW
  refine ⟨rfl, by rw [hU]; exact h2, va_K.moved hW.alike hK, by rw [hU]; exact Nat.le_trans hbs h3.1, hst s U hW (fun a g1 g2 => by rw [hU]; exact h3.2.1 a g1 g2) hex, fun h => by rw [hU]; exact htg h⟩
theorem fm_callS (hc : fm_Cx p s m args meth c cl b D nL cc own Ts tys) {y : MethodName} {bytes : ByteArray} {maxL idx mc ms : Nat} {ret : Option FieldType} {rm : Room} {post : Option Value → Nat → fm_M → Prop} {rest : List Value} {av : List Value} (hgood : ∀ w ∈ Ts, fm_gw w) (hst : fm_St b EX) (hex : EX s) (hcode : Cond.code y bytes maxL ret ∈ Ts) (hini : Cond.initialized y.cls ∈ Ts) (hlink : Cond.methodLink own idx y ∈ Ts) (hstat : Cond.static y ∈ Ts) (hy : y.cls ≠ "java/lang/invoke/MethodHandle" ∧ y.cls ≠ "java/lang/invoke/VarHandle" ∧ (parseMethodDescriptor y.desc).map (fun d => d.parameters.length) = some av.length)
    (hM : Met l y (Cond.code y bytes maxL ret :: Ts) rm (fm_Pc lay nf fk cl b x D dA tys EX false av n M) (fm_Qc lay nf fk cl b x D dA post) mc ms (fm_A b)) (hrm : rm.cells = mc ∧ rm.slots = ms ∧ rm.frames + 1 ≤ R.frames ∧ 8 + (maxL + 11) + rm.locals ≤ R.locals) (hz : z.1 + mc ≤ R.cells ∧ z.2 + ms ≤ R.slots)
    (hd : decode cc pc = .ok (.invokestatic idx, 3)) (hW : (rest.map fun v => v.category).sum ≤ 8) (kk : ∀ (r : Option Value) (n' : Nat) (M' : fm_M), post r n' M' → fm_G p l e R s m args below meth c Q lay nf fk cl b x D dA nL (pc + 3) lv (r.toList ++ rest) n' M' (z.1 + mc, z.2 + ms)) : fm_G p l e R s m args below meth c Q lay nf fk cl b x D dA nL pc lv (av.reverse ++ rest) n M z := by
  intro ls H locs h1 h2 h3
  have hG : GoodIn Ts (Cond.code y bytes maxL ret :: Ts) := fun w hw => by
    rcases List.mem_cons.mp hw with rfl | hw
    · exact ⟨hcode, hgood _ hcode⟩
    · exact ⟨hw, hgood w hw⟩
  have hWr : ((rest.map (fm_v (fm_ad b x))).map fun v => v.category).sum ≤ 8 := by
    rw [List.map_map, show ((fun v => v.category) ∘ fm_v (fm_ad b x)) = (fun v : Value => v.category) from funext (fun v => fm_v_cat _ v)]
    exact hW
  have hcb := callB_of (R := R) (s := s) (args := args) (own := own) (index := idx) (y := y) (bytes := bytes) (maxL := maxL) (ret := ret) (rm := rm) (mc := mc) (ms := ms) av.length hc.2.2.2.2.1 hG rfl hrm.1 hrm.2.1 (hc.2.2.2.2.1 _ hini) (hc.2.2.2.2.1 _ hlink) hy hrm.2.2
  refine fm_behind (a := (av.map (fm_v (fm_ad b x))).toArray) (va_runS (As := av.map (fm_v (fm_ad b x))) (rest := rest.map (fm_v (fm_ad b x))) ⟨hc.1, hc.2.1, hc.2.2.1, hc.2.2.2.1, hc.2.2.2.2.1⟩ hM ⟨hcb, hc.2.2.2.2.1 _ hstat⟩ ⟨fm_blind hst, fm_pre hst hex hc.2.2.2.2.2.1 hc.2.2.2.2.2.2.1 h2 h3 (fun h => by cases h)⟩ rfl (by rw [List.length_map]) h1.1 ?_ (lv_room hWr) hd hz) h1 h3 kk
  show (av.reverse ++ rest).map (fm_v (fm_ad b x)) = _
  rw [List.map_append, List.map_reverse]
theorem fm_callV (hc : fm_Cx p s m args meth c cl b D nL cc own Ts tys) {y : MethodName} {bytes : ByteArray} {maxL idx mc ms : Nat} {ret : Option FieldType} {rm : Room} {post : Option Value → Nat → fm_M → Prop} {rest : List Value} {av : List Value} {ob ci : Nat} {r0 : vw_C} (hgood : ∀ w ∈ Ts, fm_gw w) (hst : fm_St b EX) (hex : EX s) (hcode : Cond.code y bytes maxL ret ∈ Ts) (hini : Cond.initialized y.cls ∈ Ts) (hlink : Cond.methodLink own idx y ∈ Ts) (hin : Cond.instanceMethod y ∈ Ts) (hsel : Cond.selects y.cls y y ∈ Ts) (hy : y.cls ≠ "java/lang/invoke/MethodHandle" ∧ y.cls ≠ "java/lang/invoke/VarHandle" ∧ (parseMethodDescriptor y.desc).map (fun d => d.parameters.length) = some av.length) (ho8 : 8 ≤ ob) (hon : ob < n) (hol : (lay ob).1 = ci) (hci : ci < 100) (hcl : cl[ci]? = some r0) (hcn : r0.1 = y.cls)
    (hM : Met l y (Cond.code y bytes maxL ret :: Ts) rm (fm_Pc lay nf fk cl b x D dA tys EX false (.ref ob :: av) n M) (fm_Qc lay nf fk cl b x D dA post) mc ms (fm_A b)) (hrm : rm.cells = mc ∧ rm.slots = ms ∧ rm.frames + 1 ≤ R.frames ∧ 8 + (maxL + 11) + rm.locals ≤ R.locals) (hz : z.1 + mc ≤ R.cells ∧ z.2 + ms ≤ R.slots)
    (hd : decode cc pc = .ok (.invokevirtual idx, 3)) (hW : (rest.map fun v => v.category).sum ≤ 8) (kk : ∀ (r : Option Value) (n' : Nat) (M' : fm_M), post r n' M' → fm_G p l e R s m args below meth c Q lay nf fk cl b x D dA nL (pc + 3) lv (r.toList ++ rest) n' M' (z.1 + mc, z.2 + ms)) : fm_G p l e R s m args below meth c Q lay nf fk cl b x D dA nL pc lv (av.reverse ++ .ref ob :: rest) n M z := by
  intro ls H locs h1 h2 h3
  have hG : GoodIn Ts (Cond.code y bytes maxL ret :: Ts) := fun w hw => by
    rcases List.mem_cons.mp hw with rfl | hw
    · exact ⟨hcode, hgood _ hcode⟩
    · exact ⟨hw, hgood w hw⟩
  have hWr : ((rest.map (fm_v (fm_ad b x))).map fun v => v.category).sum ≤ 8 := by
    rw [List.map_map, show ((fun v => v.category) ∘ fm_v (fm_ad b x)) = (fun v : Value => v.category) from funext (fun v => fm_v_cat _ v)]
    exact hW
  have hcb := callB_of (R := R) (s := s) (args := args) (own := own) (index := idx) (y := y) (bytes := bytes) (maxL := maxL) (ret := ret) (rm := rm) (mc := mc) (ms := ms) av.length hc.2.2.2.2.1 hG rfl hrm.1 hrm.2.1 (hc.2.2.2.2.1 _ hini) (hc.2.2.2.2.1 _ hlink) hy hrm.2.2
  have hrec := va_recv hc.2.2.2.2.2.1 h2 hcl (show (fm_ws lay nf fk b x dA n M)[ob - 8]? = some (fm_ad b x ob, .inr (ci, (List.range (nf ci)).map (fm_fv fk (fm_ad b x) M ci ob))) by rw [fm_ws_at ho8 hon, fm_cell_obj hol hci])
  rw [hcn] at hrec
  refine fm_behind (a := ((.ref ob :: av).map (fm_v (fm_ad b x))).toArray) (va_runV (C := y.cls) (b := fm_ad b x ob) (As := av.map (fm_v (fm_ad b x))) (rest := rest.map (fm_v (fm_ad b x))) ⟨hc.1, hc.2.1, hc.2.2.1, hc.2.2.2.1, hc.2.2.2.2.1⟩ hM ⟨hcb, hc.2.2.2.2.1 _ hin, hc.2.2.2.2.1 _ hsel⟩ ⟨fm_blind hst, hrec, fm_pre (av := .ref ob :: av) hst hex hc.2.2.2.2.2.1 hc.2.2.2.2.2.2.1 h2 h3 (fun h => by cases h)⟩ rfl (by rw [List.length_map]) h1.1 ?_ (lv_room hWr) hd hz) h1 h3 kk
  show (av.reverse ++ .ref ob :: rest).map (fm_v (fm_ad b x)) = _
  rw [List.map_append, List.map_reverse]
  rfl
/-- a constructor: it may make cells; the heap holds no more than the world -/
theorem fm_callI (hc : fm_Cx p s m args meth c cl b D nL cc own Ts tys) {y : MethodName} {bytes : ByteArray} {maxL idx mc ms : Nat} {rm : Room} {post : Option Value → Nat → fm_M → Prop} {rest : List Value} {av : List Value} {ob : Nat} (hgood : ∀ w ∈ Ts, fm_gw w) (hst : fm_St b EX) (hex : EX s) (hcode : Cond.code y bytes maxL none ∈ Ts) (hini : Cond.initialized y.cls ∈ Ts) (hlink : Cond.methodLink own idx y ∈ Ts) (hin : Cond.instanceMethod y ∈ Ts) (hy1 : y.name = "<init>") (hy : y.cls ≠ "java/lang/invoke/MethodHandle" ∧ y.cls ≠ "java/lang/invoke/VarHandle" ∧ (parseMethodDescriptor y.desc).map (fun d => d.parameters.length) = some av.length)
    (hM : Met l y (Cond.code y bytes maxL none :: Ts) rm (fm_Pc lay nf fk cl b x D dA tys EX true (.ref ob :: av) n M) (fm_Qc lay nf fk cl b x D dA post) mc ms (fm_A b)) (hrm : rm.cells = mc ∧ rm.slots = ms ∧ rm.frames + 1 ≤ R.frames ∧ 8 + (maxL + 11) + rm.locals ≤ R.locals) (hz : z.1 + mc ≤ R.cells ∧ z.2 + ms ≤ R.slots) (ht : s.heap.size + z.1 = b + (n - 8))
    (hd : decode cc pc = .ok (.invokespecial idx, 3)) (hW : (rest.map fun v => v.category).sum ≤ 8) (kk : ∀ (r : Option Value) (n' : Nat) (M' : fm_M), post r n' M' → fm_G p l e R s m args below meth c Q lay nf fk cl b x D dA nL (pc + 3) lv (r.toList ++ rest) n' M' (z.1 + mc, z.2 + ms)) : fm_G p l e R s m args below meth c Q lay nf fk cl b x D dA nL pc lv (av.reverse ++ .ref ob :: rest) n M z := by
  intro ls H locs h1 h2 h3 T0 hT0 X0
  have hsz := fm_tight X0 hT0 h2 hc.2.2.2.2.2.2.1 h3 ht
  have hG : GoodIn Ts (Cond.code y bytes maxL none :: Ts) := fun w hw => by
    rcases List.mem_cons.mp hw with rfl | hw
    · exact ⟨hcode, hgood _ hcode⟩
    · exact ⟨hw, hgood w hw⟩
  have hWr : ((rest.map (fm_v (fm_ad b x))).map fun v => v.category).sum ≤ 8 := by
    rw [List.map_map, show ((fun v => v.category) ∘ fm_v (fm_ad b x)) = (fun v : Value => v.category) from funext (fun v => fm_v_cat _ v)]
    exact hW
  have hcb := callB_of (R := R) (s := s) (args := args) (own := own) (index := idx) (y := y) (bytes := bytes) (maxL := maxL) (ret := none) (rm := rm) (mc := mc) (ms := ms) av.length hc.2.2.2.2.1 hG rfl hrm.1 hrm.2.1 (hc.2.2.2.2.1 _ hini) (hc.2.2.2.2.1 _ hlink) hy hrm.2.2
  refine fm_behind (a := ((.ref ob :: av).map (fm_v (fm_ad b x))).toArray) (va_runI (b := fm_ad b x ob) (As := av.map (fm_v (fm_ad b x))) (rest := rest.map (fm_v (fm_ad b x))) ⟨hc.1, hc.2.1, hc.2.2.1, hc.2.2.2.1, hc.2.2.2.2.1⟩ hM ⟨hcb, hy1, hc.2.2.2.2.1 _ hin⟩ ⟨fm_blind hst, fm_pre (av := .ref ob :: av) hst hex hc.2.2.2.2.2.1 hc.2.2.2.2.2.2.1 h2 h3 (fun _ => hsz)⟩ rfl (by rw [List.length_map]) h1.1 ?_ (lv_room hWr) hd hz) h1 h3 kk T0 hT0 X0
  show (av.reverse ++ .ref ob :: rest).map (fm_v (fm_ad b x)) = _
  rw [List.map_append, List.map_reverse]
  rfl
theorem fm_objInit (hc : fm_Cx p s m args meth c cl b D nL cc own Ts tys) {idx ob : Nat} {rest : List Value} (hlink : Cond.methodLink own idx Lib.objectInit ∈ Ts) (hin : Cond.instanceMethod Lib.objectInit ∈ Ts) (hcode : Cond.code Lib.objectInit ⟨#[0xb1]⟩ 1 none ∈ Ts) (hd : decode cc pc = .ok (.invokespecial idx, 3)) (hfr : 1 ≤ R.frames) (hlo : (rest.map fun v => v.category).sum + 12 ≤ R.locals)
    (k : fm_G p l e R s m args below meth c Q lay nf fk cl b x D dA nL (pc + 3) lv rest n M z) : fm_G p l e R s m args below meth c Q lay nf fk cl b x D dA nL pc lv (.ref ob :: rest) n M z := by
  intro ls H locs h1 h2 h3
  have hs : ((rest.map (fm_v (fm_ad b x))).map fun v => v.category).sum = (rest.map fun v => v.category).sum := by
    rw [List.map_map, show ((fun v => v.category) ∘ fm_v (fm_ad b x)) = (fun v : Value => v.category) from funext (fun v => fm_v_cat _ v)]
  refine W.objInit hc.1 hc.2.1 hc.2.2.2.1 (hc.2.2.2.2.1 _ hlink) (hc.2.2.2.2.1 _ hin) (hc.2.2.2.2.1 _ hcode) (g := F0 m pc ls (.ref (fm_ad b x ob) :: rest.map (fm_v (fm_ad b x)))) rfl (by rw [hc.2.2.1]; exact h1.1) rfl hd hfr ?_ ?_
  · rw [hs]; simpa [JFrame.monitorRoom] using hlo
  · exact k ls H locs h1 h2 h3
end FMC
