/-! EXCEPTIONS, first part: a call of a method that returns or throws, paid by its free contract (the library's Steps.callFree) -/
section FXP
variable {l : Launch} {R : Room} {p : Program} {e : Env} {below : List Frame} {s : State} {sargs : Array Value} {y : MethodName}
theorem fx_pay {S : Spec} {P : Array Value → State → Prop} {Q : Array Value → State → Outcome → State → Prop} {free : Addr → Prop} {mc ms W9 maxL len : Nat}
    (hM : MetFree l y S P (fun _ _ _ _ _ => True) Q)
    (hQ : ∀ a st o t, Q a st o t → st.WarmedH t.vm ∧ ∃ L, st.sameButNew ({ t with vm := st.vm } : State) L mc ms ∧ ∀ z ∈ L, free z.base)
    {m : MethodId} {meth : Method} {c : Code} {U : State} {Ls : List Loc} {c0 s0 : Nat} {g : JFrame} {ig : Instr} {mk : MethodId} {a : Array Value} {methY : Method} {cY : Code} {kY : Class}
    (X : Stand p l e R s m sargs below meth c U Ls c0 s0) (hg : g.method = m) (hsize : g.locals.size = c.maxLocals) (hdg : decode c.code g.pc = .ok (ig, len)) (hW : 2 * g.monitorRoom + (g.stack.map fun v => v.category).sum ≤ W9)
    (hn : U.methodNamed? y = some mk) (hmY : U.vm.method? mk = some methY) (hcY : methY.code = some cY) (hlY : cY.maxLocals = maxL) (hkY : U.vm.classes[mk.cls]? = some kY) (hiY : kY.init = .initialized)
    (hframes : S.room.frames + 1 ≤ R.frames) (hlocals : W9 + (maxL + 11) + S.room.locals ≤ R.locals) (h4 : c0 + S.room.cells ≤ R.cells) (h5 : s0 + S.room.slots ≤ R.slots) (h1 : S.pre.before a U = true) (hP : P a (U.calling g mk a)) :
    ∃ (o : Outcome) (t U' : State) (L : List Loc), Q a (U.calling g mk a) o t ∧ U'.heap = t.heap ∧ U'.vm = t.vm ∧ Stand p l e R s m sargs below meth c U' (Ls ++ L) (c0 + mc) (s0 + ms) ∧ (∀ z ∈ L, free z.base) ∧
      ((∃ v, o = .returned v ∧ Steps p.tables e below (doInvoke e (U.setTop g) [] mk a).1 (U'.setTop { g with pc := g.pc + len, stack := v.toList ++ g.stack })) ∨
       (∃ q, o = .threw q ∧ Steps p.tables e below (doInvoke e (U.setTop g) [] mk a).1 ((U'.setTop g).pushFrame (.throwing q)))) := by
  have h : At U g.method c below := by rw [hg]; exact X.here
  have happ : S.appliesLoose y e.platform (U.calling g mk a) = true :=
    Spec.appliesLoose_calling (g := g) h hdg hn hkY hiY (X.room_calling (g := g) (R' := S.room) hsize hmY hcY hframes (by rw [hlY]; omega) h4 h5) h1
  obtain ⟨mid, hmid⟩ := h.above
  have hfr : (U.setTop g).frames = (.java g :: mid) ++ below := by rw [State.frames_setTop' g h.top, hmid]; rfl
  obtain ⟨o, t, hsteps, -, hend, hq⟩ := Steps.callFree hM p X.admits X.cas X.clock (acts := []) hfr happ hP trivial
  have hq' : Q a (U.calling g mk a) o t := hq
  rw [State.frames_setTop' g h.top] at hend
  obtain ⟨hW2, L, hsm, hL⟩ := hQ _ _ _ _ hq'
  obtain ⟨e2, q2, q3, q4, q5, q6⟩ := id hsm
  have hWU : U.WarmedH t.vm := hW2
  obtain ⟨g0, hg0⟩ := Option.isSome_iff_exists.mp h.top
  obtain ⟨r, hr⟩ := State.topJava?_eq_some.mp hg0
  obtain ⟨U', hU'⟩ : ∃ z, z = (({ U with heap := t.heap, slotsUsed := t.slotsUsed } : State).setVm t.vm) := ⟨_, rfl⟩
  have hfU : U'.frames = .java g0 :: r := by rw [hU']; exact hr
  have ht : t = U'.setFrames t.frames := by
    have h9 : t = ({ t with vm := (U.calling g mk a).vm } : State).setVm t.vm := rfl
    rw [e2] at h9
    rw [hU']
    refine h9.trans ?_
    rw [State.calling_eq h.top, State.setFrames_setFrames]
    rfl
  have hsame : U.sameButNew ({ U with heap := t.heap, slotsUsed := t.slotsUsed } : State) L mc ms := by
    refine ⟨?_, q2, q3, q4, q5, q6⟩
    obtain ⟨t0, ht0, -⟩ := State.frames_cons hr
    show ({ U with heap := t.heap, slotsUsed := t.slotsUsed } : State) = { U.setFrames U.frames with heap := t.heap, slotsUsed := t.slotsUsed }
    rw [State.setFrames_self ht0]
  have hX' : Stand p l e R s m sargs below meth c U' (Ls ++ L) (c0 + mc) (s0 + ms) := by
    rw [hU']
    exact ⟨X.admits, X.cas, X.clock, X.frames, X.room, X.hears, X.method, X.code, (X.here.setHeapUsed t.heap t.slotsUsed).setVm hWU.alike, X.tail, State.WarmedH.trans X.warmed hWU, X.limits, X.bytes, X.same.trans (hsame.setVm s.vm)⟩
  refine ⟨o, t, U', L, hq', by rw [hU']; rfl, by rw [hU']; rfl, hX', hL, ?_⟩
  cases o with
  | returned v =>
    left
    obtain ⟨c2, i2, len2, hc2, hd2, hf2⟩ := hend
    have hcc : c2 = c := by
      have h9 : t.code? g.method = U.code? g.method := by rw [State.code?_eq, State.code?_eq, hWU.alike.method?]
      exact Option.some.inj (hc2.symm.trans (h9.trans h.code))
    subst hcc
    have hlen : len2 = len := by rw [hdg] at hd2; cases hd2; rfl
    subst hlen
    refine ⟨v, rfl, ?_⟩
    have hs : U'.setTop { g with pc := g.pc + len2, stack := v.toList ++ g.stack } = t := by
      rw [State.setTop_of_frames _ hfU, ht, hf2, hr]
      rfl
    rw [hs]
    exact hsteps
  | threw q =>
    right
    have hf2 : t.frames = .throwing q :: .java g :: U.frames.tail := hend
    refine ⟨q, rfl, ?_⟩
    have hs : (U'.setTop g).pushFrame (.throwing q) = t := by
      rw [State.pushFrame, State.frames_setTop _ hfU, State.setTop_of_frames _ hfU, State.setFrames_setFrames, ht, hf2, hr]
      rfl
    rw [hs]
    exact hsteps
end FXP
