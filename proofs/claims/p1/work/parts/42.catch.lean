/-! EXCEPTIONS, third part: a handler; methods with handlers and their static calls -/
theorem q_482 : (Jvm.Cond.codeWith ({ cls := "AgentNetLaw", name := "launch", desc := "(LAgentNet;III[J)I" } : Jvm.MethodName) method_3_code (6 : Nat) (Option.some Jvm.ClassFile.FieldType.int) [((0 : Nat), (12 : Nat), (15 : Nat), (13 : Nat)), ((0 : Nat), (12 : Nat), (19 : Nat), (15 : Nat))]) ∈ fm_T0 := fm_T0_3 2 rfl rfl
theorem q_682 : (Jvm.Cond.codeWith ({ cls := "AgentNetLaw", name := "step", desc := "(LAgentNet;II[J)I" } : Jvm.MethodName) method_4_code (5 : Nat) (Option.some Jvm.ClassFile.FieldType.int) [((0 : Nat), (10 : Nat), (13 : Nat), (13 : Nat)), ((0 : Nat), (10 : Nat), (17 : Nat), (15 : Nat))]) ∈ fm_T0 := fm_T0_3 202 rfl rfl
theorem q_705 : (Jvm.Cond.codeWith ({ cls := "AgentNetLaw", name := "tick", desc := "(LAgentNet;I[J)I" } : Jvm.MethodName) method_5_code (4 : Nat) (Option.some Jvm.ClassFile.FieldType.int) [((0 : Nat), (9 : Nat), (12 : Nat), (13 : Nat)), ((0 : Nat), (9 : Nat), (15 : Nat), (15 : Nat))]) ∈ fm_T0 := fm_T0_3 225 rfl rfl
theorem q_750 : (Jvm.Cond.codeWith ({ cls := "AgentNetLaw", name := "checkpoint", desc := "(LAgentNet;I[J)I" } : Jvm.MethodName) method_6_code (4 : Nat) (Option.some Jvm.ClassFile.FieldType.int) [((0 : Nat), (9 : Nat), (12 : Nat), (13 : Nat)), ((0 : Nat), (9 : Nat), (15 : Nat), (15 : Nat))]) ∈ fm_T0 := fm_T0_4 30 rfl rfl
theorem q_776 : (Jvm.Cond.codeWith ({ cls := "AgentNetLaw", name := "write", desc := "(LAgentNet;II[J)I" } : Jvm.MethodName) method_7_code (5 : Nat) (Option.some Jvm.ClassFile.FieldType.int) [((0 : Nat), (10 : Nat), (13 : Nat), (13 : Nat)), ((0 : Nat), (10 : Nat), (17 : Nat), (15 : Nat))]) ∈ fm_T0 := fm_T0_4 56 rfl rfl
theorem q_799 : (Jvm.Cond.codeWith ({ cls := "AgentNetLaw", name := "crash", desc := "(LAgentNet;I[J)I" } : Jvm.MethodName) method_8_code (4 : Nat) (Option.some Jvm.ClassFile.FieldType.int) [((0 : Nat), (16 : Nat), (19 : Nat), (13 : Nat))]) ∈ fm_T0 := fm_T0_4 79 rfl rfl
theorem q_810 : (Jvm.Cond.codeWith ({ cls := "AgentNetLaw", name := "start", desc := "(LAgentNet;I[J)I" } : Jvm.MethodName) method_9_code (4 : Nat) (Option.some Jvm.ClassFile.FieldType.int) [((0 : Nat), (16 : Nat), (19 : Nat), (13 : Nat))]) ∈ fm_T0 := fm_T0_4 90 rfl rfl
theorem q_821 : (Jvm.Cond.codeWith ({ cls := "AgentNetLaw", name := "net", desc := "(LAgentNet;II[J)I" } : Jvm.MethodName) method_10_code (5 : Nat) (Option.some Jvm.ClassFile.FieldType.int) [((0 : Nat), (10 : Nat), (13 : Nat), (13 : Nat)), ((0 : Nat), (10 : Nat), (17 : Nat), (41 : Nat)), ((0 : Nat), (10 : Nat), (21 : Nat), (15 : Nat))]) ∈ fm_T0 := fm_T0_4 101 rfl rfl
def fm_Ca (C T : String) (U : State) : Prop := ∃ c t : ClassId, U.vm.findClass C = some c ∧ U.vm.findClass T = some t ∧ U.vm.assignable c t = true
theorem fm_Ca.moved {C T : String} {u U : State} (hvm : u.vm.Alike U.vm) (h : fm_Ca C T u) : fm_Ca C T U := by
  obtain ⟨c, t, h1, h2, h3⟩ := h
  exact ⟨c, t, by rw [hvm.findClass]; exact h1, by rw [hvm.findClass]; exact h2, by rw [hvm.assignable]; exact h3⟩
theorem fm_Ca.of {args : Array Value} {s : State} {C T : String} (h : (Cond.castable C T).before args s = true) : fm_Ca C T s := by
  obtain ⟨c, t, h1, h2, h3⟩ := Cond.castable_spec h
  exact ⟨c, t, h1, h2, h3⟩
section FXH
variable {p : Program} {l : Launch} {e : Env} {R : Room} {s : State} {m : MethodId} {args : Array Value} {below : List Frame} {meth : Method} {c : Code} {Q : State → Prop}
variable {lay : Nat → Nat × Nat} {nf : Nat → Nat} {fk : Nat → Nat → Nat} {cl : List vw_C} {b : Nat} {x : Nat → Nat} {D : va_G} {dA : Nat → ClassId} {nL : Nat} {cc : ByteArray} {own : String} {Ts : List Cond} {tys : List (ClassId × FieldType)}
variable {pc : Nat} {lv lv' : List (Nat × Value)} {st : List Value} {n : Nat} {M : fm_M} {z : Nat × Nat} {EX : State → Prop}
theorem fx_catch (hc : fm_Cx p s m args meth c cl b D nL cc own Ts tys) {E name : String} {rest : List Value} {i : Nat} (pre : List ExceptionTableEntry) (h : ExceptionTableEntry) (suf : List ExceptionTableEntry) (hsplit : c.exceptionTable.toList = pre ++ h :: suf)
    (hpass : ∀ w ∈ pre, covers w pc = false ∨ (w.catchType ≠ 0 ∧ ∃ nm : String, Cond.classLink own w.catchType nm ∈ Ts ∧ va_Nc E nm s)) (hcov : covers h pc = true) (h0 : h.catchType ≠ 0) (hlink : Cond.classLink own h.catchType name ∈ Ts) (hcast : fm_Ca E name s)
    (hd : decode cc h.handlerPc = .ok (.astore i, 2)) (hi : i < nL) (hl : lv.filter (fun q => !(q.1 == i) && !(q.1 + 1 == i && q.2.category == 2)) = lv') (k : fm_G p l e R s m args below meth c Q lay nf fk cl b x D dA nL (h.handlerPc + 2) lv' [] n M z) :
    fx_G p l e R s m args below meth c Q lay nf fk cl b x D dA nL E pc lv rest n M z := by
  intro ls H locs q ce h1 h2 h3 hce hcv hcl T hT X
  have hpl : e.platform.magicAccessors = ({} : Platform).magicAccessors := by rw [X.admits.platform]
  obtain ⟨c3, c4, hc3, hc4, hasg⟩ := hcast
  cases Option.some.inj (hc3.symm.trans hcl)
  obtain ⟨c5, hc5, hcl5⟩ := Cond.classLink_spec hc.2.2.2.1 (hc.2.2.2.2.1 _ hlink) e.platform hpl
  cases Option.some.inj (hc4.symm.trans hc5)
  obtain ⟨vm', X', st⟩ := X.thenCaughtThrough q (g := F0 m pc ls (rest.map (fm_v (fm_ad b x)))) rfl (Steps.refl _) (by rw [hT]; exact hce) (by rw [hcv]; rfl) (by obtain ⟨k9, h9, -⟩ := Vm.findClass_spec hcl; exact ⟨k9, h9⟩) pre h suf hsplit
    (fun w hw => by
      rcases hpass w hw with h9 | ⟨hz0, nm, hl1, hn1⟩
      · exact Or.inl h9
      · obtain ⟨c6, hc6, hcl6⟩ := Cond.classLink_spec hc.2.2.2.1 (hc.2.2.2.2.1 _ hl1) e.platform hpl
        obtain ⟨a8, b8, g1, g2, g3⟩ := hn1
        cases Option.some.inj (g1.symm.trans hcl)
        cases Option.some.inj (g2.symm.trans hc6)
        exact Or.inr ⟨hz0, _, hcl6, g3⟩) hcov (Or.inr ⟨h0, c4, hcl5, hasg⟩)
  have hw : W p l e R s m args below meth c H locs z.1 z.2 Q (F0 m h.handlerPc ls [.ref q]) := by
    refine lv_astore hc.1 hc.2.1 hd h1 hi rfl (fun ls' h1' => ?_)
    refine k ls' H locs ⟨h1'.1, h1'.2.1, fun y hy => h1'.2.2 y (List.mem_cons_of_mem _ ?_)⟩ h2 h3
    rw [fm_lv_filter (fm_ad b x) lv (fun q => !(q.1 == i) && !(q.1 + 1 == i && q.2.category == 2)) _ (fun q => by rw [fm_v_cat]), hl]
    exact hy
  obtain ⟨t, a1, b1⟩ := hw (T.setVm vm') hT X'
  exact ⟨t, st.trans a1, b1⟩
theorem fx_catch_n (hc : fm_Cx p s m args meth c cl b D nL cc own Ts tys) {E name : String} {rest : List Value} {i : Nat} {i0 : Fin 4} (hi0 : (i0 : Nat) = i) (pre : List ExceptionTableEntry) (h : ExceptionTableEntry) (suf : List ExceptionTableEntry) (hsplit : c.exceptionTable.toList = pre ++ h :: suf)
    (hpass : ∀ w ∈ pre, covers w pc = false ∨ (w.catchType ≠ 0 ∧ ∃ nm : String, Cond.classLink own w.catchType nm ∈ Ts ∧ va_Nc E nm s)) (hcov : covers h pc = true) (h0 : h.catchType ≠ 0) (hlink : Cond.classLink own h.catchType name ∈ Ts) (hcast : fm_Ca E name s)
    (hd : decode cc h.handlerPc = .ok (.astore_n i0, 1)) (hi : i < nL) (hl : lv.filter (fun q => !(q.1 == i) && !(q.1 + 1 == i && q.2.category == 2)) = lv') (k : fm_G p l e R s m args below meth c Q lay nf fk cl b x D dA nL (h.handlerPc + 1) lv' [] n M z) :
    fx_G p l e R s m args below meth c Q lay nf fk cl b x D dA nL E pc lv rest n M z := by
  intro ls H locs q ce h1 h2 h3 hce hcv hcl T hT X
  have hpl : e.platform.magicAccessors = ({} : Platform).magicAccessors := by rw [X.admits.platform]
  obtain ⟨c3, c4, hc3, hc4, hasg⟩ := hcast
  cases Option.some.inj (hc3.symm.trans hcl)
  obtain ⟨c5, hc5, hcl5⟩ := Cond.classLink_spec hc.2.2.2.1 (hc.2.2.2.2.1 _ hlink) e.platform hpl
  cases Option.some.inj (hc4.symm.trans hc5)
  obtain ⟨vm', X', st⟩ := X.thenCaughtThrough q (g := F0 m pc ls (rest.map (fm_v (fm_ad b x)))) rfl (Steps.refl _) (by rw [hT]; exact hce) (by rw [hcv]; rfl) (by obtain ⟨k9, h9, -⟩ := Vm.findClass_spec hcl; exact ⟨k9, h9⟩) pre h suf hsplit
    (fun w hw => by
      rcases hpass w hw with h9 | ⟨hz0, nm, hl1, hn1⟩
      · exact Or.inl h9
      · obtain ⟨c6, hc6, hcl6⟩ := Cond.classLink_spec hc.2.2.2.1 (hc.2.2.2.2.1 _ hl1) e.platform hpl
        obtain ⟨a8, b8, g1, g2, g3⟩ := hn1
        cases Option.some.inj (g1.symm.trans hcl)
        cases Option.some.inj (g2.symm.trans hc6)
        exact Or.inr ⟨hz0, _, hcl6, g3⟩) hcov (Or.inr ⟨h0, c4, hcl5, hasg⟩)
  have hw : W p l e R s m args below meth c H locs z.1 z.2 Q (F0 m h.handlerPc ls [.ref q]) := by
    refine lv_astore_n hc.1 hc.2.1 hd hi0 h1 hi rfl (fun ls' h1' => ?_)
    refine k ls' H locs ⟨h1'.1, h1'.2.1, fun y hy => h1'.2.2 y (List.mem_cons_of_mem _ ?_)⟩ h2 h3
    rw [fm_lv_filter (fm_ad b x) lv (fun q => !(q.1 == i) && !(q.1 + 1 == i && q.2.category == 2)) _ (fun q => by rw [fm_v_cat]), hl]
    exact hy
  obtain ⟨t, a1, b1⟩ := hw (T.setVm vm') hT X'
  exact ⟨t, st.trans a1, b1⟩
/-- a method with handlers: its table is known -/
theorem fm_enterW {y : MethodName} {Ts0 : List Cond} {rm : Room} {maxL : Nat} {ret : Option FieldType} {hh : List (Nat × Nat × Nat × Nat)} {tg : Bool} {av : List Value} {post : Option Value → Nat → fm_M → Prop} {mc ms : Nat} (hy : plainName y.cls = true) (hlen : (lg_sl (av.map (fm_v (fm_ad b x)))).length ≤ maxL)
    (body : ∀ (p : Program) (e : Env) (s : State) (m : MethodId) (args : Array Value) (below : List Frame) (meth : Method) (c : Code), fm_Cx p s m args meth c cl b D maxL cc y.cls Ts0 tys → meth.sig.returnType = ret → meth.name = y.name → EX s → (tg = true → s.heap.size = b + (n - 8)) → c.exceptionTable.toList = tableOf hh →
      fm_G p l e (headSpec (Cond.codeWith y cc maxL ret hh :: Ts0) rm).room s m args below meth c (MQ below (fm_Qc lay nf fk cl b x D dA post) args s mc ms (fm_A b)) lay nf fk cl b x D dA maxL 0 (lv_args 0 av) [] n M (0, 0)) :
    Met l y (Cond.codeWith y cc maxL ret hh :: Ts0) rm (fm_Pc lay nf fk cl b x D dA tys EX tg av n M) (fm_Qc lay nf fk cl b x D dA post) mc ms (fm_A b) := by
  refine va_MetW (cc := cc) (maxL := maxL) (ret := ret) (hh := hh) hy rfl ?_
  intro p e s m args below meth c s₁ B hml hv
  obtain ⟨rfl, hP, hK, hbs, hex, htg⟩ := hv
  have hts := atoms_spec (ws := Cond.codeWith y cc maxL ret hh :: Ts0) B.pre
  have hown : s.vm.findClass y.cls = some m.cls := findClass_of_methodNamed B.named
  have hnm : meth.name = y.name := (name_of_methodNamed B.named B.method).1
  have htab : c.exceptionTable.toList = tableOf hh := by
    obtain ⟨m9, meth9, c9, hn9, h1, h2, -, -, h6, -⟩ := Cond.codeWith_spec (hts _ List.mem_cons_self)
    cases Option.some.inj (hn9.symm.trans B.named)
    cases Option.some.inj (h1.symm.trans B.method)
    cases Option.some.inj (h2.symm.trans (Stand.of_body B).code)
    rw [← h6, table_eq]
  have hg := body p e s m _ below meth c ⟨B.exec, B.bytes, hml, hown, fun w hw => hts w (List.mem_cons_of_mem _ hw), hK, hbs, B.notSynchronized⟩ B.returns hnm hex htg htab
  have hl := lv_entry (av.map (fm_v (fm_ad b x))) (n := maxL) hlen
  rw [lg_entry_eq]
  have hlv : lv_args 0 (av.map (fm_v (fm_ad b x))) = fm_lv (fm_ad b x) (lv_args 0 av) := by
    have key : ∀ (vs : List Value) (i : Nat), lv_args i (vs.map (fm_v (fm_ad b x))) = fm_lv (fm_ad b x) (lv_args i vs) := by
      intro vs
      induction vs with
      | nil => intro i; rfl
      | cons v t ih =>
        intro i
        show (i, fm_v (fm_ad b x) v) :: lv_args (if (fm_v (fm_ad b x) v).category = 2 then i + 2 else i + 1) (t.map (fm_v (fm_ad b x))) = (i, fm_v (fm_ad b x) v) :: fm_lv (fm_ad b x) (lv_args (if v.category = 2 then i + 2 else i + 1) t)
        rw [fm_v_cat, ih]
    exact key av 0
  rw [hlv] at hl
  exact hg _ s.heap [] hl hP va_S.rf
/-- its static call -/
theorem fm_callSW (hc : fm_Cx p s m args meth c cl b D nL cc own Ts tys) {y : MethodName} {bytes : ByteArray} {maxL idx mc ms : Nat} {ret : Option FieldType} {rm : Room} {post : Option Value → Nat → fm_M → Prop} {rest : List Value} {hh : List (Nat × Nat × Nat × Nat)} {av : List Value} (hgood : ∀ w ∈ Ts, fm_gw w) (hst : fm_St b EX) (hex : EX s) (hcode : Cond.codeWith y bytes maxL ret hh ∈ Ts) (hini : Cond.initialized y.cls ∈ Ts) (hlink : Cond.methodLink own idx y ∈ Ts) (hstat : Cond.static y ∈ Ts) (hy : y.cls ≠ "java/lang/invoke/MethodHandle" ∧ y.cls ≠ "java/lang/invoke/VarHandle" ∧ (parseMethodDescriptor y.desc).map (fun d => d.parameters.length) = some av.length)
    (hM : Met l y (Cond.codeWith y bytes maxL ret hh :: Ts) rm (fm_Pc lay nf fk cl b x D dA tys EX false av n M) (fm_Qc lay nf fk cl b x D dA post) mc ms (fm_A b)) (hrm : rm.cells = mc ∧ rm.slots = ms ∧ rm.frames + 1 ≤ R.frames ∧ 8 + (maxL + 11) + rm.locals ≤ R.locals) (hz : z.1 + mc ≤ R.cells ∧ z.2 + ms ≤ R.slots)
    (hd : decode cc pc = .ok (.invokestatic idx, 3)) (hW : (rest.map fun v => v.category).sum ≤ 8)
    (kk : ∀ (r : Option Value) (n' : Nat) (M' : fm_M), post r n' M' → fm_G p l e R s m args below meth c Q lay nf fk cl b x D dA nL (pc + 3) lv (r.toList ++ rest) n' M' (z.1 + mc, z.2 + ms)) : fm_G p l e R s m args below meth c Q lay nf fk cl b x D dA nL pc lv (av.reverse ++ rest) n M z := by
  intro ls H locs h1 h2 h3 T hT X
  have hG : GoodIn Ts (Cond.codeWith y bytes maxL ret hh :: Ts) := fun w hw => by
    rcases List.mem_cons.mp hw with rfl | hw
    · exact ⟨hcode, hgood _ hcode⟩
    · exact ⟨hw, hgood w hw⟩
  have hWr : ((rest.map (fm_v (fm_ad b x))).map fun v => v.category).sum ≤ 8 := by
    rw [List.map_map, show ((fun v => v.category) ∘ fm_v (fm_ad b x)) = (fun v : Value => v.category) from funext (fun v => fm_v_cat _ v)]
    exact hW
  obtain ⟨mk, methM, cM, hnamed, hmethM, hcM, -, hlM, -, -, -, hsigM⟩ := Cond.codeWith_spec (hc.2.2.2.2.1 _ hcode)
  have hstatic : methM.isStatic = true := Cond.static_spec hnamed hmethM (hc.2.2.2.2.1 _ hstat)
  obtain ⟨kP, hkP, -⟩ := className_of_methodNamed hnamed
  have hinitP : kP.init = .initialized := Cond.initialized_spec (findClass_of_methodNamed hnamed) hkP (hc.2.2.2.2.1 _ hini)
  obtain ⟨g, hgd⟩ : ∃ g, g = F0 m pc ls ((av.map (fm_v (fm_ad b x))).reverse ++ rest.map (fm_v (fm_ad b x))) := ⟨_, rfl⟩
  have hgm : g.method = m := by rw [hgd]
  have hgl : g.locals.size = c.maxLocals := by rw [hgd, hc.2.2.1]; exact h1.1
  have hgp : g.pc = pc := by rw [hgd]
  have hdg : decode c.code g.pc = .ok (.invokestatic idx, 3) := by rw [hc.2.1, hgp]; exact hd
  have hlen : (av.map (fm_v (fm_ad b x))).length = methM.sig.parameters.length := by
    have h9 := hy.2.2
    rw [hsigM] at h9
    rw [List.length_map]
    exact (Option.some.inj h9).symm
  obtain ⟨vm₁, X₁, hstep₁⟩ := X.invokestatic hc.1 hc.2.2.2.1 (hc.2.2.2.2.1 _ hlink) hnamed hmethM hstatic hkP hinitP ⟨hy.1, hy.2.1⟩ (g := g) hgm (argsL := av.map (fm_v (fm_ad b x))) (rest := rest.map (fm_v (fm_ad b x))) hlen (by rw [hgd]) hdg
  have hws : ∀ w ∈ (Cond.codeWith y bytes maxL ret hh :: Ts), ∀ (a' : Array Value) (U : State), s.WarmedH U.vm → w.before a' U = true := pay_in hc.2.2.2.2.1 hG
  have hnm1 := X₁.named hnamed
  obtain ⟨mk2, meth2, cM2, hnm2, hm2, hcM2, -, hlM2, -, -, -, -⟩ := Cond.codeWith_spec (hws _ List.mem_cons_self #[] _ X₁.warmed)
  cases Option.some.inj (hnm1.symm.trans hnm2)
  obtain ⟨kY, hkY, -⟩ := className_of_methodNamed hnm1
  have hiY : kY.init = .initialized := Cond.initialized_spec (findClass_of_methodNamed hnm1) hkY (hws _ (List.mem_cons_of_mem _ hini) #[] _ X₁.warmed)
  obtain ⟨oc, t, U', L, hq, e1, e2, X', hL, hend⟩ := fx_pay (W9 := 8) (maxL := maxL) (len := 3) (mc := mc) (ms := ms) (free := fm_A b) hM (fun a st oc t h => by
      obtain ⟨-, L, hfe, hL⟩ := h
      exact ⟨hfe.2.1, L, hfe.2.2, hL⟩) (g := { g with stack := rest.map (fm_v (fm_ad b x)) }) (ig := .invokestatic idx) (a := (av.map (fm_v (fm_ad b x))).toArray) X₁ hgm hgl hdg
    (by
      have h9 := lv_room (m := m) (pc := pc) (ls := ls) (rest := rest.map (fm_v (fm_ad b x))) hWr
      rw [hgd]
      exact h9) hnm1 hm2 hcM2 hlM2 hkY hiY hrm.2.2.1 hrm.2.2.2 (by rw [show (headSpec (Cond.codeWith y bytes maxL ret hh :: Ts) rm).room.cells = mc from hrm.1]; exact hz.1) (by rw [show (headSpec (Cond.codeWith y bytes maxL ret hh :: Ts) rm).room.slots = ms from hrm.2.1]; exact hz.2)
    (atoms_intro fun w hw => hws w hw _ _ X₁.warmed) (fm_blind hst _ _ _ _ (fm_pre (av := av) hst hex hc.2.2.2.2.2.1 hc.2.2.2.2.2.2.1 h2 h3 (fun h => by cases h) (T.setVm vm₁) hT X₁.warmed))
  obtain ⟨⟨⟨r, n', M', ho, hp, hw⟩, hz1, hk1⟩, -⟩ := hq
  have hhp : ((T.setVm vm₁).calling { g with stack := rest.map (fm_v (fm_ad b x)) } mk (av.map (fm_v (fm_ad b x))).toArray).heap = H := hT
  rw [hhp] at hz1 hk1
  have hS' : va_S (fm_A b) s.heap U'.heap (locs ++ L) := ⟨Nat.le_trans h3.1 (by rw [e1]; exact hz1), fun q g1 g2 => by rw [e1, hk1 q (Nat.lt_of_lt_of_le g1 h3.1) g2]; exact h3.2.1 q g1 g2, fun q hq => by
    rcases List.mem_append.mp hq with h | h
    · exact h3.2.2 q h
    · exact hL q h⟩
  have hgo : ∀ target, Steps p.tables e below (doInvoke e ((T.setVm vm₁).setTop { g with stack := rest.map (fm_v (fm_ad b x)) }) [] mk (av.map (fm_v (fm_ad b x))).toArray).1 target → Steps p.tables e below (T.setTop g) target := fun target h => hstep₁ _ fun acts => by rw [doInvoke_state]; exact h
  have hstk : F0 m pc ls ((av.reverse ++ rest).map (fm_v (fm_ad b x))) = g := by rw [hgd, List.map_append, List.map_reverse]
  rw [hstk]
  rcases hend with ⟨v, hv, hs⟩ | ⟨q, hv, hs⟩
  · cases ho.symm.trans hv
    have hg9 := kk r n' M' hp ls U'.heap (locs ++ L) h1 (by rw [e1]; exact hw) hS'
    have es : (r.toList ++ rest).map (fm_v (fm_ad b x)) = (r.map (fm_v (fm_ad b x))).toList ++ rest.map (fm_v (fm_ad b x)) := by cases r <;> rfl
    rw [es] at hg9
    obtain ⟨t2, a1, b1⟩ := hg9 U' rfl X'
    refine ⟨t2, hgo t2 (hs.trans ?_), b1⟩
    rw [hgd]
    exact a1
  · rw [hv] at ho
    cases ho
end FXH
