/-! EXCEPTIONS, second part: contracts of methods that return or throw, over flat memory; their calls; handlers -/
def fx_Q (lay : Nat → Nat × Nat) (nf : Nat → Nat) (fk : Nat → Nat → Nat) (cl : List vw_C) (b : Nat) (x : Nat → Nat) (D : va_G) (dA : Nat → ClassId) (post : Option Value → Nat → fm_M → Prop) (xpost : String → Nat → fm_M → Prop) (mc ms : Nat) : Array Value → State → Outcome → State → Prop := fun _ st oc t =>
  (st.WarmedH t.vm ∧ ∃ L, st.sameButNew ({ t with vm := st.vm } : State) L mc ms ∧ ∀ z ∈ L, fm_A b z.base) ∧ va_F (fm_A b) st t ∧
  ((∃ (r : Option Value) (n' : Nat) (M' : fm_M), oc = .returned (r.map (fm_v (fm_ad b x))) ∧ post r n' M' ∧ va_P D cl (fm_ws lay nf fk b x dA n' M') t.heap) ∨
   (∃ (q : Addr) (E : String) (ce : Cell) (n' : Nat) (M' : fm_M), oc = .threw q ∧ xpost E n' M' ∧ t.heap[q]? = some ce ∧ ce.vm = .none ∧ st.vm.findClass E = some ce.cls ∧ va_P D cl (fm_ws lay nf fk b x dA n' M') t.heap))
def fx_MQ (below : List Frame) (Q : Array Value → State → Outcome → State → Prop) (a : Array Value) (s : State) : State → Prop := fun t => ∃ oc, t.status = .running ∧ Ended t below oc ∧ Q a s oc t
section FXC
variable {p : Program} {l : Launch} {e : Env} {R : Room} {s : State} {m : MethodId} {args : Array Value} {below : List Frame} {meth : Method} {c : Code} {Q : State → Prop}
variable {lay : Nat → Nat × Nat} {nf : Nat → Nat} {fk : Nat → Nat → Nat} {cl : List vw_C} {b : Nat} {x : Nat → Nat} {D : va_G} {dA : Nat → ClassId} {nL : Nat} {cc : ByteArray} {own : String} {Ts : List Cond} {tys : List (ClassId × FieldType)}
variable {pc : Nat} {lv lv' : List (Nat × Value)} {st : List Value} {n : Nat} {M : fm_M} {z : Nat × Nat} {EX : State → Prop}
/-- such a method's contract out of the walk of its body; it has no handlers of its own -/
theorem fx_enter {y : MethodName} {Ts0 : List Cond} {rm : Room} {maxL : Nat} {ret : Option FieldType} {tg : Bool} {av : List Value} {post : Option Value → Nat → fm_M → Prop} {xpost : String → Nat → fm_M → Prop} {mc ms : Nat} (hy : plainName y.cls = true) (hlen : (lg_sl (av.map (fm_v (fm_ad b x)))).length ≤ maxL)
    (body : ∀ (p : Program) (e : Env) (s : State) (m : MethodId) (args : Array Value) (below : List Frame) (meth : Method) (c : Code), fm_Cx p s m args meth c cl b D maxL cc y.cls Ts0 tys → meth.sig.returnType = ret → meth.name = y.name → EX s → (tg = true → s.heap.size = b + (n - 8)) → (∀ h ∈ c.exceptionTable.toList, False) →
      fm_G p l e (headSpec (Cond.code y cc maxL ret :: Ts0) rm).room s m args below meth c (fx_MQ below (fx_Q lay nf fk cl b x D dA post xpost mc ms) args s) lay nf fk cl b x D dA maxL 0 (lv_args 0 av) [] n M (0, 0)) :
    MetFree l y (headSpec (Cond.code y cc maxL ret :: Ts0) rm) (fm_Pc lay nf fk cl b x D dA tys EX tg av n M) (fun _ _ _ _ _ => True) (fx_Q lay nf fk cl b x D dA post xpost mc ms) := by
  refine MetFree.of_bodyS (code := cc) (maxLocals := maxL) (ret := ret) hy ?_ ?_
  · intro args s m h hn
    obtain ⟨meth, c, h1, h2, h3, h4, h5, h6, -, -⟩ := Cond.code_spec hn (atoms_spec (ws := Cond.code y cc maxL ret :: Ts0) h _ List.mem_cons_self)
    exact ⟨meth, c, h1, h2, h3, h4, h5, h6⟩
  · intro p e s m args below meth c s₁ B hml hv _
    obtain ⟨rfl, hP, hK, hbs, hex, htg⟩ := hv
    have hts := atoms_spec (ws := Cond.code y cc maxL ret :: Ts0) B.pre
    have hown : s.vm.findClass y.cls = some m.cls := findClass_of_methodNamed B.named
    have hnm : meth.name = y.name := (name_of_methodNamed B.named B.method).1
    have htab : ∀ h ∈ c.exceptionTable.toList, False := by
      obtain ⟨meth9, c9, h1, h2, -, -, -, -, h7, -⟩ := Cond.code_spec B.named (hts _ List.mem_cons_self)
      cases Option.some.inj (h1.symm.trans B.method)
      cases Option.some.inj (h2.symm.trans (Stand.of_body B).code)
      intro h hh
      rw [Array.isEmpty_iff.mp h7] at hh
      cases hh
    have hg := body p e s m _ below meth c ⟨B.exec, B.bytes, hml, hown, fun w hw => hts w (List.mem_cons_of_mem _ hw), hK, hbs, B.notSynchronized⟩ B.returns hnm hex htg htab
    have hl := lv_entry (av.map (fm_v (fm_ad b x))) (n := maxL) hlen
    have hlv : lv_args 0 (av.map (fm_v (fm_ad b x))) = fm_lv (fm_ad b x) (lv_args 0 av) := by
      have key : ∀ (vs : List Value) (i : Nat), lv_args i (vs.map (fm_v (fm_ad b x))) = fm_lv (fm_ad b x) (lv_args i vs) := by
        intro vs
        induction vs with
        | nil => intro i; rfl
        | cons v t ih =>
          intro i
          show (i, fm_v (fm_ad b x) v) :: lv_args (if (fm_v (fm_ad b x) v).category = 2 then i + 2 else i + 1) (t.map (fm_v (fm_ad b x))) = (i, fm_v (fm_ad b x) v) :: fm_lv (fm_ad b x) (lv_args (if v.category = 2 then i + 2 else i + 1) t)
          rw [fm_v_cat, ih]
      exact key av 0
    rw [hlv] at hl
    have hh0 : s₁.heap = s.heap := by rw [B.state]; rfl
    obtain ⟨t, a1, oc, b1, b2, b3⟩ := hg _ s.heap [] hl hP va_S.rf s₁ hh0 (Stand.of_body B)
    rw [lg_entry_eq]
    exact ⟨t, oc, a1, b1, b2, b3⟩
/-- where it returns -/
theorem fx_ret {post : Option Value → Nat → fm_M → Prop} {xpost : String → Nat → fm_M → Prop} {mc ms : Nat} (k : fm_G p l e R s m args below meth c (MQ below (fm_Qc lay nf fk cl b x D dA post) args s mc ms (fm_A b)) lay nf fk cl b x D dA nL pc lv st n M z) : fm_G p l e R s m args below meth c (fx_MQ below (fx_Q lay nf fk cl b x D dA post xpost mc ms) args s) lay nf fk cl b x D dA nL pc lv st n M z := by
  intro ls H locs h1 h2 h3 T hT X
  obtain ⟨t, a1, oc, b1, b2, ⟨hr, hF⟩, L, hfe, hL⟩ := k ls H locs h1 h2 h3 T hT X
  exact ⟨t, a1, oc, b1, b2, ⟨hfe.2.1, L, hfe.2.2, hL⟩, hF, Or.inl hr⟩
/-- thrown at pc, an object of class E: what is to be shown -/
def fx_G (p : Program) (l : Launch) (e : Env) (R : Room) (s : State) (m : MethodId) (args : Array Value) (below : List Frame) (meth : Method) (c : Code) (Q : State → Prop) (lay : Nat → Nat × Nat) (nf : Nat → Nat) (fk : Nat → Nat → Nat) (cl : List vw_C) (b : Nat) (x : Nat → Nat) (D : va_G) (dA : Nat → ClassId) (nL : Nat)
    (E : String) (pc : Nat) (lv : List (Nat × Value)) (st : List Value) (n : Nat) (M : fm_M) (z : Nat × Nat) : Prop :=
  ∀ (ls : Array Slot) (H : Heap) (locs : List Loc) (q : Addr) (ce : Cell), lv_has ls nL (fm_lv (fm_ad b x) lv) → va_P D cl (fm_ws lay nf fk b x dA n M) H → va_S (fm_A b) s.heap H locs → H[q]? = some ce → ce.vm = .none → s.vm.findClass E = some ce.cls →
    ∀ T : State, T.heap = H → Stand p l e R s m args below meth c T locs z.1 z.2 → ∃ t, Steps p.tables e below ((T.setTop (F0 m pc ls (st.map (fm_v (fm_ad b x))))).pushFrame (.throwing q)) t ∧ Q t
/-- a call of a method that returns or throws -/
theorem fx_callV (hc : fm_Cx p s m args meth c cl b D nL cc own Ts tys) {y : MethodName} {bytes : ByteArray} {maxL idx mc ms : Nat} {ret : Option FieldType} {rm : Room} {post : Option Value → Nat → fm_M → Prop} {rest : List Value} {xpost : String → Nat → fm_M → Prop} {av : List Value} {ob ci : Nat} {r0 : vw_C} (hgood : ∀ w ∈ Ts, fm_gw w) (hst : fm_St b EX) (hex : EX s) (hcode : Cond.code y bytes maxL ret ∈ Ts) (hini : Cond.initialized y.cls ∈ Ts) (hlink : Cond.methodLink own idx y ∈ Ts) (hin : Cond.instanceMethod y ∈ Ts) (hsel : Cond.selects y.cls y y ∈ Ts) (hy : y.cls ≠ "java/lang/invoke/MethodHandle" ∧ y.cls ≠ "java/lang/invoke/VarHandle" ∧ (parseMethodDescriptor y.desc).map (fun d => d.parameters.length) = some av.length) (ho8 : 8 ≤ ob) (hon : ob < n) (hol : (lay ob).1 = ci) (hci : ci < 100) (hcl : cl[ci]? = some r0) (hcn : r0.1 = y.cls)
    (hM : MetFree l y (headSpec (Cond.code y bytes maxL ret :: Ts) rm) (fm_Pc lay nf fk cl b x D dA tys EX false (.ref ob :: av) n M) (fun _ _ _ _ _ => True) (fx_Q lay nf fk cl b x D dA post xpost mc ms)) (hrm : rm.cells = mc ∧ rm.slots = ms ∧ rm.frames + 1 ≤ R.frames ∧ 8 + (maxL + 11) + rm.locals ≤ R.locals) (hz : z.1 + mc ≤ R.cells ∧ z.2 + ms ≤ R.slots)
    (hd : decode cc pc = .ok (.invokevirtual idx, 3)) (hW : (rest.map fun v => v.category).sum ≤ 8)
    (kk : ∀ (r : Option Value) (n' : Nat) (M' : fm_M), post r n' M' → fm_G p l e R s m args below meth c Q lay nf fk cl b x D dA nL (pc + 3) lv (r.toList ++ rest) n' M' (z.1 + mc, z.2 + ms))
    (kx : ∀ (E : String) (n' : Nat) (M' : fm_M), xpost E n' M' → fx_G p l e R s m args below meth c Q lay nf fk cl b x D dA nL E pc lv rest n' M' (z.1 + mc, z.2 + ms)) : fm_G p l e R s m args below meth c Q lay nf fk cl b x D dA nL pc lv (av.reverse ++ .ref ob :: rest) n M z := by
  intro ls H locs h1 h2 h3 T hT X
  have hG : GoodIn Ts (Cond.code y bytes maxL ret :: Ts) := fun w hw => by
    rcases List.mem_cons.mp hw with rfl | hw
    · exact ⟨hcode, hgood _ hcode⟩
    · exact ⟨hw, hgood w hw⟩
  have hWr : ((rest.map (fm_v (fm_ad b x))).map fun v => v.category).sum ≤ 8 := by
    rw [List.map_map, show ((fun v => v.category) ∘ fm_v (fm_ad b x)) = (fun v : Value => v.category) from funext (fun v => fm_v_cat _ v)]
    exact hW
  obtain ⟨cellB, hcB, hoB, hclB⟩ := va_recv hc.2.2.2.2.2.1 h2 hcl (show (fm_ws lay nf fk b x dA n M)[ob - 8]? = some (fm_ad b x ob, .inr (ci, (List.range (nf ci)).map (fm_fv fk (fm_ad b x) M ci ob))) by rw [fm_ws_at ho8 hon, fm_cell_obj hol hci])
  rw [hcn] at hclB
  have hcodeS := hc.2.2.2.2.1 _ hcode
  obtain ⟨mk, methM, hnamed, hmethM, hstM, habM⟩ := Cond.instanceMethod_spec (hc.2.2.2.2.1 _ hin)
  obtain ⟨methM', cM, hmethM', hcM, -, hlM, -, -, -, hsigM⟩ := Cond.code_spec hnamed hcodeS
  cases hmethM.symm.trans hmethM'
  obtain ⟨c2, r2, m2, q1, q2, q3, q4, kP, hkP, hkPi⟩ := Cond.selects_spec (hc.2.2.2.2.1 _ hsel)
  cases hclB.symm.trans q1
  cases (State.methodFound?_of_named hnamed ⟨hy.1, hy.2.1⟩).symm.trans q2
  cases hnamed.symm.trans q3
  have hselP : selectMethod e.platform s.vm cellB.cls mk = .method mk := by rw [Launch.admits_selectMethod X.admits]; exact q4
  obtain ⟨g, hgd⟩ : ∃ g, g = F0 m pc ls ((av.map (fm_v (fm_ad b x))).reverse ++ .ref (fm_ad b x ob) :: rest.map (fm_v (fm_ad b x))) := ⟨_, rfl⟩
  have hgm : g.method = m := by rw [hgd]
  have hgl : g.locals.size = c.maxLocals := by rw [hgd, hc.2.2.1]; exact h1.1
  have hgp : g.pc = pc := by rw [hgd]
  have hdg : decode c.code g.pc = .ok (.invokevirtual idx, 3) := by rw [hc.2.1, hgp]; exact hd
  have hlen : (av.map (fm_v (fm_ad b x))).length = methM.sig.parameters.length := by
    have h9 := hy.2.2
    rw [hsigM] at h9
    rw [List.length_map]
    exact (Option.some.inj h9).symm
  obtain ⟨vm₁, X₁, hstep₁⟩ := X.invokevirtual hc.1 hc.2.2.2.1 (hc.2.2.2.2.1 _ hlink) hnamed hmethM hstM hkP hkPi ⟨hy.1, hy.2.1⟩ (a := fm_ad b x ob) (cell := cellB) (by rw [hT]; exact hcB)
    (fun z9 h9 => by rw [h9] at hoB; cases hoB) hselP hmethM habM hkP hkPi (g := g) hgm (argsL := av.map (fm_v (fm_ad b x))) (rest := rest.map (fm_v (fm_ad b x))) hlen (by rw [hgd]) hdg
  have hws : ∀ w ∈ (Cond.code y bytes maxL ret :: Ts), ∀ (a' : Array Value) (U : State), s.WarmedH U.vm → w.before a' U = true := pay_in hc.2.2.2.2.1 hG
  have hnm1 := X₁.named hnamed
  obtain ⟨meth2, cM2, hm2, hcM2, -, hlM2, -, -, -, -⟩ := Cond.code_spec hnm1 (hws _ List.mem_cons_self #[] _ X₁.warmed)
  obtain ⟨kY, hkY, -⟩ := className_of_methodNamed hnm1
  have hiY : kY.init = .initialized := Cond.initialized_spec (findClass_of_methodNamed hnm1) hkY (hws _ (List.mem_cons_of_mem _ hini) #[] _ X₁.warmed)
  obtain ⟨oc, t, U', L, hq, e1, e2, X', hL, hend⟩ := fx_pay (W9 := 8) (maxL := maxL) (len := 3) (mc := mc) (ms := ms) (free := fm_A b) hM (fun a st oc t h => h.1) (g := { g with stack := rest.map (fm_v (fm_ad b x)) }) (ig := .invokevirtual idx) (a := (Value.ref (fm_ad b x ob) :: av.map (fm_v (fm_ad b x))).toArray) X₁ hgm hgl hdg
    (by
      have h9 := lv_room (m := m) (pc := pc) (ls := ls) (rest := rest.map (fm_v (fm_ad b x))) hWr
      rw [hgd]
      exact h9) hnm1 hm2 hcM2 hlM2 hkY hiY hrm.2.2.1 hrm.2.2.2 (by rw [show (headSpec (Cond.code y bytes maxL ret :: Ts) rm).room.cells = mc from hrm.1]; exact hz.1) (by rw [show (headSpec (Cond.code y bytes maxL ret :: Ts) rm).room.slots = ms from hrm.2.1]; exact hz.2)
    (atoms_intro fun w hw => hws w hw _ _ X₁.warmed) (fm_blind hst _ _ _ _ (fm_pre (av := .ref ob :: av) hst hex hc.2.2.2.2.2.1 hc.2.2.2.2.2.2.1 h2 h3 (fun h => by cases h) (T.setVm vm₁) hT X₁.warmed))
  obtain ⟨-, hF, hres⟩ := hq
  have hhp : ((T.setVm vm₁).calling { g with stack := rest.map (fm_v (fm_ad b x)) } mk (Value.ref (fm_ad b x ob) :: av.map (fm_v (fm_ad b x))).toArray).heap = H := hT
  obtain ⟨hz1, hk1⟩ := hF
  rw [hhp] at hz1 hk1
  have hS' : va_S (fm_A b) s.heap U'.heap (locs ++ L) := ⟨Nat.le_trans h3.1 (by rw [e1]; exact hz1), fun q g1 g2 => by rw [e1, hk1 q (Nat.lt_of_lt_of_le g1 h3.1) g2]; exact h3.2.1 q g1 g2, fun q hq => by
    rcases List.mem_append.mp hq with h | h
    · exact h3.2.2 q h
    · exact hL q h⟩
  have hgo : ∀ target, Steps p.tables e below (doInvoke e ((T.setVm vm₁).setTop { g with stack := rest.map (fm_v (fm_ad b x)) }) [] mk (Value.ref (fm_ad b x ob) :: av.map (fm_v (fm_ad b x))).toArray).1 target → Steps p.tables e below (T.setTop g) target := fun target h => hstep₁ _ fun acts => by rw [doInvoke_state]; exact h
  have hstk : F0 m pc ls ((av.reverse ++ .ref ob :: rest).map (fm_v (fm_ad b x))) = g := by
    rw [hgd, List.map_append, List.map_reverse]
    rfl
  rw [hstk]
  rcases hres with ⟨r, n', M', ho, hp, hw⟩ | ⟨q, E, ce, n', M', ho, hp, hce, hcv, hcl9, hw⟩
  · rcases hend with ⟨v, hv, hs⟩ | ⟨q, hv, hs⟩
    · cases ho.symm.trans hv
      have hg9 := kk r n' M' hp ls U'.heap (locs ++ L) h1 (by rw [e1]; exact hw) hS'
      have es : (r.toList ++ rest).map (fm_v (fm_ad b x)) = (r.map (fm_v (fm_ad b x))).toList ++ rest.map (fm_v (fm_ad b x)) := by cases r <;> rfl
      rw [es] at hg9
      obtain ⟨t2, a1, b1⟩ := hg9 U' rfl X'
      refine ⟨t2, hgo t2 (hs.trans ?_), b1⟩
      rw [hgd]
      exact a1
    · rw [hv] at ho
      cases ho
  · rcases hend with ⟨v, hv, hs⟩ | ⟨q', hv, hs⟩
    · rw [hv] at ho
      cases ho
    · cases ho.symm.trans hv
      have hcl8 : s.vm.findClass E = some ce.cls := by
        have h8 : (T.setVm vm₁).vm.findClass E = some ce.cls := hcl9
        rw [X₁.warmed.alike.findClass] at h8
        exact h8
      obtain ⟨t2, a1, b1⟩ := kx E n' M' hp ls U'.heap (locs ++ L) q ce h1 (by rw [e1]; exact hw) hS' (by rw [e1]; exact hce) hcv hcl8 U' rfl X'
      refine ⟨t2, hgo t2 (hs.trans ?_), b1⟩
      rw [hgd]
      exact a1
end FXC
