/-! CALLS of private members of a nest mate -/
section FMN
variable {p : Program} {l : Launch} {e : Env} {R : Room} {s : State} {m : MethodId} {args : Array Value} {below : List Frame} {meth : Method} {c : Code} {Q : State → Prop}
variable {lay : Nat → Nat × Nat} {nf : Nat → Nat} {fk : Nat → Nat → Nat} {cl : List vw_C} {b : Nat} {x : Nat → Nat} {D : va_G} {dA : Nat → ClassId} {nL : Nat} {cc : ByteArray} {own : String} {Ts : List Cond} {tys : List (ClassId × FieldType)}
variable {pc : Nat} {lv lv' : List (Nat × Value)} {st : List Value} {n : Nat} {M : fm_M} {z : Nat × Nat} {EX : State → Prop}
theorem fm_callSN (hc : fm_Cx p s m args meth c cl b D nL cc own Ts tys) {y : MethodName} {bytes : ByteArray} {maxL idx mc ms : Nat} {ret : Option FieldType} {rm : Room} {post : Option Value → Nat → fm_M → Prop} {rest : List Value} {av : List Value} {host : String} (hgood : ∀ w ∈ Ts, fm_gw w) (hst : fm_St b EX) (hex : EX s) (hcode : Cond.code y bytes maxL ret ∈ Ts) (hini : Cond.initialized y.cls ∈ Ts) (hlink : va_Nw (.methodLinkNest own idx y host) s) (hstat : Cond.static y ∈ Ts) (hy : y.cls ≠ "java/lang/invoke/MethodHandle" ∧ y.cls ≠ "java/lang/invoke/VarHandle" ∧ (parseMethodDescriptor y.desc).map (fun d => d.parameters.length) = some av.length)
    (hM : Met l y (Cond.code y bytes maxL ret :: Ts) rm (fm_Pc lay nf fk cl b x D dA tys EX false av n M) (fm_Qc lay nf fk cl b x D dA post) mc ms (fm_A b)) (hrm : rm.cells = mc ∧ rm.slots = ms ∧ rm.frames + 1 ≤ R.frames ∧ 8 + (maxL + 11) + rm.locals ≤ R.locals) (hz : z.1 + mc ≤ R.cells ∧ z.2 + ms ≤ R.slots)
    (hd : decode cc pc = .ok (.invokestatic idx, 3)) (hW : (rest.map fun v => v.category).sum ≤ 8) (kk : ∀ (r : Option Value) (n' : Nat) (M' : fm_M), post r n' M' → fm_G p l e R s m args below meth c Q lay nf fk cl b x D dA nL (pc + 3) lv (r.toList ++ rest) n' M' (z.1 + mc, z.2 + ms)) : fm_G p l e R s m args below meth c Q lay nf fk cl b x D dA nL pc lv (av.reverse ++ rest) n M z := by
  intro ls H locs h1 h2 h3
  have hG : GoodIn Ts (Cond.code y bytes maxL ret :: Ts) := fun w hw => by
    rcases List.mem_cons.mp hw with rfl | hw
    · exact ⟨hcode, hgood _ hcode⟩
    · exact ⟨hw, hgood w hw⟩
  have hWr : ((rest.map (fm_v (fm_ad b x))).map fun v => v.category).sum ≤ 8 := by
    rw [List.map_map, show ((fun v => v.category) ∘ fm_v (fm_ad b x)) = (fun v : Value => v.category) from funext (fun v => fm_v_cat _ v)]
    exact hW
  have hcb := va_cnB (R := R) (s := s) (args := args) (own := own) (host := host) (index := idx) (y := y) (bytes := bytes) (maxL := maxL) (ret := ret) (rm := rm) (mc := mc) (ms := ms) av.length hc.2.2.2.2.1 hG rfl hrm.1 hrm.2.1 hlink (hc.2.2.2.2.1 _ hini) hy hrm.2.2
  refine fm_behind (a := (av.map (fm_v (fm_ad b x))).toArray) (va_runSN (As := av.map (fm_v (fm_ad b x))) (rest := rest.map (fm_v (fm_ad b x))) ⟨hc.1, hc.2.1, hc.2.2.1, hc.2.2.2.1, hc.2.2.2.2.1⟩ hM ⟨hcb, hc.2.2.2.2.1 _ hstat, trivial⟩ ⟨fm_blind hst, fm_pre hst hex hc.2.2.2.2.2.1 hc.2.2.2.2.2.2.1 h2 h3 (fun h => by cases h)⟩ rfl (by rw [List.length_map]) h1.1 ?_ (lv_room hWr) hd hz) h1 h3 kk
  show (av.reverse ++ rest).map (fm_v (fm_ad b x)) = _
  rw [List.map_append, List.map_reverse]
theorem fm_callIN (hc : fm_Cx p s m args meth c cl b D nL cc own Ts tys) {y : MethodName} {bytes : ByteArray} {maxL idx mc ms : Nat} {rm : Room} {post : Option Value → Nat → fm_M → Prop} {rest : List Value} {av : List Value} {ob : Nat} {host : String} (hgood : ∀ w ∈ Ts, fm_gw w) (hst : fm_St b EX) (hex : EX s) (hcode : Cond.code y bytes maxL none ∈ Ts) (hini : Cond.initialized y.cls ∈ Ts) (hlink : va_Nw (.methodLinkNest own idx y host) s) (hin : Cond.instanceMethod y ∈ Ts) (hy1 : y.name = "<init>") (hy : y.cls ≠ "java/lang/invoke/MethodHandle" ∧ y.cls ≠ "java/lang/invoke/VarHandle" ∧ (parseMethodDescriptor y.desc).map (fun d => d.parameters.length) = some av.length)
    (hM : Met l y (Cond.code y bytes maxL none :: Ts) rm (fm_Pc lay nf fk cl b x D dA tys EX true (.ref ob :: av) n M) (fm_Qc lay nf fk cl b x D dA post) mc ms (fm_A b)) (hrm : rm.cells = mc ∧ rm.slots = ms ∧ rm.frames + 1 ≤ R.frames ∧ 8 + (maxL + 11) + rm.locals ≤ R.locals) (hz : z.1 + mc ≤ R.cells ∧ z.2 + ms ≤ R.slots) (ht : s.heap.size + z.1 = b + (n - 8))
    (hd : decode cc pc = .ok (.invokespecial idx, 3)) (hW : (rest.map fun v => v.category).sum ≤ 8) (kk : ∀ (r : Option Value) (n' : Nat) (M' : fm_M), post r n' M' → fm_G p l e R s m args below meth c Q lay nf fk cl b x D dA nL (pc + 3) lv (r.toList ++ rest) n' M' (z.1 + mc, z.2 + ms)) : fm_G p l e R s m args below meth c Q lay nf fk cl b x D dA nL pc lv (av.reverse ++ .ref ob :: rest) n M z := by
  intro ls H locs h1 h2 h3 T0 hT0 X0
  have hsz := fm_tight X0 hT0 h2 hc.2.2.2.2.2.2.1 h3 ht
  have hG : GoodIn Ts (Cond.code y bytes maxL none :: Ts) := fun w hw => by
    rcases List.mem_cons.mp hw with rfl | hw
    · exact ⟨hcode, hgood _ hcode⟩
    · exact ⟨hw, hgood w hw⟩
  have hWr : ((rest.map (fm_v (fm_ad b x))).map fun v => v.category).sum ≤ 8 := by
    rw [List.map_map, show ((fun v => v.category) ∘ fm_v (fm_ad b x)) = (fun v : Value => v.category) from funext (fun v => fm_v_cat _ v)]
    exact hW
  have hcb := va_cnB (R := R) (s := s) (args := args) (own := own) (host := host) (index := idx) (y := y) (bytes := bytes) (maxL := maxL) (ret := none) (rm := rm) (mc := mc) (ms := ms) av.length hc.2.2.2.2.1 hG rfl hrm.1 hrm.2.1 hlink (hc.2.2.2.2.1 _ hini) hy hrm.2.2
  refine fm_behind (a := ((.ref ob :: av).map (fm_v (fm_ad b x))).toArray) (va_runIN (b := fm_ad b x ob) (As := av.map (fm_v (fm_ad b x))) (rest := rest.map (fm_v (fm_ad b x))) ⟨hc.1, hc.2.1, hc.2.2.1, hc.2.2.2.1, hc.2.2.2.2.1⟩ hM ⟨hcb, hy1, hc.2.2.2.2.1 _ hin⟩ ⟨fm_blind hst, fm_pre (av := .ref ob :: av) hst hex hc.2.2.2.2.2.1 hc.2.2.2.2.2.2.1 h2 h3 (fun _ => hsz)⟩ rfl (by rw [List.length_map]) h1.1 ?_ (lv_room hWr) hd hz) h1 h3 kk T0 hT0 X0
  show (av.reverse ++ .ref ob :: rest).map (fm_v (fm_ad b x)) = _
  rw [List.map_append, List.map_reverse]
  rfl
end FMN
