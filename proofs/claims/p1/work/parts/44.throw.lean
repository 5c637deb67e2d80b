/-! EXCEPTIONS: 'throw new E()' in a method without handlers: the rule -/
def fx_Own (own : String) (ic : Nat) (E : String) : Prop := ∀ (P : Cond → Prop), (∀ w ∈ fm_T0, P w) → (∀ Y ∈ fx_ups ++ [Bundle.tN], P (.declares ⟨Y, "<init>", "()V"⟩)) → P (.castable E E) →
  P (.laysStatic Bundle.tN "UNASSIGNED_STACK" Bundle.steD) → P (.laysStatic Bundle.tN "SUPPRESSED_SENTINEL" Bundle.listD) → P (.isRef (.static Bundle.tN "UNASSIGNED_STACK" Bundle.steD)) → P (.isRef (.static Bundle.tN "SUPPRESSED_SENTINEL" Bundle.listD)) → ∀ w ∈ Bundle.ownAtoms0 own ic E fx_ups, P w
theorem fx_own_IAE : fx_Own "AgentNet" 75 fx_IAE := by
  intro P h hd hca s1 s2 r1 r2
  refine List.forall_mem_cons.mpr ⟨h _ q_14, ?_⟩
  refine List.forall_mem_cons.mpr ⟨h _ (fm_T0_3 31 rfl rfl), ?_⟩
  refine List.forall_mem_cons.mpr ⟨h _ q_520, ?_⟩
  refine List.forall_mem_cons.mpr ⟨h _ (fm_T0_3 44 rfl rfl), ?_⟩
  refine List.forall_mem_cons.mpr ⟨h _ q_527, ?_⟩
  refine List.forall_mem_cons.mpr ⟨h _ (fm_T0_3 49 rfl rfl), ?_⟩
  refine List.forall_mem_cons.mpr ⟨h _ q_512, ?_⟩
  refine List.forall_mem_cons.mpr ⟨h _ q_513, ?_⟩
  refine List.forall_mem_cons.mpr ⟨h _ q_29, ?_⟩
  refine List.forall_mem_cons.mpr ⟨h _ q_30, ?_⟩
  refine List.forall_mem_cons.mpr ⟨h _ q_514, ?_⟩
  refine List.forall_mem_cons.mpr ⟨h _ q_519, ?_⟩
  refine List.forall_mem_cons.mpr ⟨h _ q_525, ?_⟩
  refine List.forall_mem_cons.mpr ⟨h _ q_541, ?_⟩
  refine List.forall_mem_cons.mpr ⟨h _ q_501, ?_⟩
  refine List.forall_mem_cons.mpr ⟨h _ q_542, ?_⟩
  refine List.forall_mem_cons.mpr ⟨h _ q_503, ?_⟩
  refine List.forall_mem_cons.mpr ⟨h _ q_543, ?_⟩
  refine List.forall_mem_cons.mpr ⟨h _ q_505, ?_⟩
  refine List.forall_mem_cons.mpr ⟨h _ q_515, ?_⟩
  refine List.forall_mem_cons.mpr ⟨s1, ?_⟩
  refine List.forall_mem_cons.mpr ⟨h _ q_517, ?_⟩
  refine List.forall_mem_cons.mpr ⟨s2, ?_⟩
  refine List.forall_mem_cons.mpr ⟨h _ q_507, ?_⟩
  refine List.forall_mem_cons.mpr ⟨h _ q_531, ?_⟩
  refine List.forall_mem_cons.mpr ⟨h _ q_532, ?_⟩
  refine List.forall_mem_cons.mpr ⟨h _ q_533, ?_⟩
  refine List.forall_mem_cons.mpr ⟨h _ q_534, ?_⟩
  refine List.forall_mem_cons.mpr ⟨hd _ (by decide), ?_⟩
  refine List.forall_mem_cons.mpr ⟨h _ q_534, ?_⟩
  refine List.forall_mem_cons.mpr ⟨h _ q_535, ?_⟩
  refine List.forall_mem_cons.mpr ⟨h _ q_536, ?_⟩
  refine List.forall_mem_cons.mpr ⟨h _ q_537, ?_⟩
  refine List.forall_mem_cons.mpr ⟨hd _ (by decide), ?_⟩
  refine List.forall_mem_cons.mpr ⟨h _ q_537, ?_⟩
  refine List.forall_mem_cons.mpr ⟨h _ q_538, ?_⟩
  refine List.forall_mem_cons.mpr ⟨h _ q_539, ?_⟩
  refine List.forall_mem_cons.mpr ⟨h _ q_512, ?_⟩
  refine List.forall_mem_cons.mpr ⟨hd _ (by decide), ?_⟩
  refine List.forall_mem_cons.mpr ⟨h _ q_530, ?_⟩
  refine List.forall_mem_cons.mpr ⟨h _ q_490, ?_⟩
  refine List.forall_mem_cons.mpr ⟨hca, ?_⟩
  refine List.forall_mem_cons.mpr ⟨h _ q_498, ?_⟩
  refine List.forall_mem_cons.mpr ⟨h _ q_499, ?_⟩
  refine List.forall_mem_cons.mpr ⟨h _ q_500, ?_⟩
  refine List.forall_mem_cons.mpr ⟨h _ q_502, ?_⟩
  refine List.forall_mem_cons.mpr ⟨h _ q_504, ?_⟩
  refine List.forall_mem_cons.mpr ⟨h _ q_506, ?_⟩
  refine List.forall_mem_cons.mpr ⟨r1, ?_⟩
  refine List.forall_mem_cons.mpr ⟨r2, ?_⟩
  refine List.forall_mem_cons.mpr ⟨h _ q_510, ?_⟩
  refine List.forall_mem_cons.mpr ⟨h _ q_509, ?_⟩
  refine List.forall_mem_cons.mpr ⟨h _ q_508, ?_⟩
  exact fun _ hw => by cases hw
theorem fx_own_ISE : fx_Own "AgentNet" 82 fx_ISE := by
  intro P h hd hca s1 s2 r1 r2
  refine List.forall_mem_cons.mpr ⟨h _ q_14, ?_⟩
  refine List.forall_mem_cons.mpr ⟨h _ (fm_T0_3 31 rfl rfl), ?_⟩
  refine List.forall_mem_cons.mpr ⟨h _ q_520, ?_⟩
  refine List.forall_mem_cons.mpr ⟨h _ (fm_T0_3 44 rfl rfl), ?_⟩
  refine List.forall_mem_cons.mpr ⟨h _ q_527, ?_⟩
  refine List.forall_mem_cons.mpr ⟨h _ (fm_T0_3 49 rfl rfl), ?_⟩
  refine List.forall_mem_cons.mpr ⟨h _ q_512, ?_⟩
  refine List.forall_mem_cons.mpr ⟨h _ q_513, ?_⟩
  refine List.forall_mem_cons.mpr ⟨h _ q_29, ?_⟩
  refine List.forall_mem_cons.mpr ⟨h _ q_30, ?_⟩
  refine List.forall_mem_cons.mpr ⟨h _ q_514, ?_⟩
  refine List.forall_mem_cons.mpr ⟨h _ q_519, ?_⟩
  refine List.forall_mem_cons.mpr ⟨h _ q_525, ?_⟩
  refine List.forall_mem_cons.mpr ⟨h _ q_541, ?_⟩
  refine List.forall_mem_cons.mpr ⟨h _ q_501, ?_⟩
  refine List.forall_mem_cons.mpr ⟨h _ q_542, ?_⟩
  refine List.forall_mem_cons.mpr ⟨h _ q_503, ?_⟩
  refine List.forall_mem_cons.mpr ⟨h _ q_543, ?_⟩
  refine List.forall_mem_cons.mpr ⟨h _ q_505, ?_⟩
  refine List.forall_mem_cons.mpr ⟨h _ q_515, ?_⟩
  refine List.forall_mem_cons.mpr ⟨s1, ?_⟩
  refine List.forall_mem_cons.mpr ⟨h _ q_517, ?_⟩
  refine List.forall_mem_cons.mpr ⟨s2, ?_⟩
  refine List.forall_mem_cons.mpr ⟨h _ q_507, ?_⟩
  refine List.forall_mem_cons.mpr ⟨h _ q_562, ?_⟩
  refine List.forall_mem_cons.mpr ⟨h _ q_563, ?_⟩
  refine List.forall_mem_cons.mpr ⟨h _ q_564, ?_⟩
  refine List.forall_mem_cons.mpr ⟨h _ q_534, ?_⟩
  refine List.forall_mem_cons.mpr ⟨hd _ (by decide), ?_⟩
  refine List.forall_mem_cons.mpr ⟨h _ q_534, ?_⟩
  refine List.forall_mem_cons.mpr ⟨h _ q_535, ?_⟩
  refine List.forall_mem_cons.mpr ⟨h _ q_536, ?_⟩
  refine List.forall_mem_cons.mpr ⟨h _ q_537, ?_⟩
  refine List.forall_mem_cons.mpr ⟨hd _ (by decide), ?_⟩
  refine List.forall_mem_cons.mpr ⟨h _ q_537, ?_⟩
  refine List.forall_mem_cons.mpr ⟨h _ q_538, ?_⟩
  refine List.forall_mem_cons.mpr ⟨h _ q_539, ?_⟩
  refine List.forall_mem_cons.mpr ⟨h _ q_512, ?_⟩
  refine List.forall_mem_cons.mpr ⟨hd _ (by decide), ?_⟩
  refine List.forall_mem_cons.mpr ⟨h _ q_561, ?_⟩
  refine List.forall_mem_cons.mpr ⟨h _ q_553, ?_⟩
  refine List.forall_mem_cons.mpr ⟨hca, ?_⟩
  refine List.forall_mem_cons.mpr ⟨h _ q_555, ?_⟩
  refine List.forall_mem_cons.mpr ⟨h _ q_522, ?_⟩
  refine List.forall_mem_cons.mpr ⟨h _ q_556, ?_⟩
  refine List.forall_mem_cons.mpr ⟨h _ q_557, ?_⟩
  refine List.forall_mem_cons.mpr ⟨h _ q_558, ?_⟩
  refine List.forall_mem_cons.mpr ⟨h _ q_559, ?_⟩
  refine List.forall_mem_cons.mpr ⟨r1, ?_⟩
  refine List.forall_mem_cons.mpr ⟨r2, ?_⟩
  refine List.forall_mem_cons.mpr ⟨h _ q_510, ?_⟩
  refine List.forall_mem_cons.mpr ⟨h _ q_509, ?_⟩
  refine List.forall_mem_cons.mpr ⟨h _ q_560, ?_⟩
  exact fun _ hw => by cases hw
theorem fx_own_IOE : fx_Own "AgentNet" 149 fx_IOE := by
  intro P h hd hca s1 s2 r1 r2
  refine List.forall_mem_cons.mpr ⟨h _ q_14, ?_⟩
  refine List.forall_mem_cons.mpr ⟨h _ (fm_T0_3 31 rfl rfl), ?_⟩
  refine List.forall_mem_cons.mpr ⟨h _ q_520, ?_⟩
  refine List.forall_mem_cons.mpr ⟨h _ (fm_T0_3 44 rfl rfl), ?_⟩
  refine List.forall_mem_cons.mpr ⟨h _ q_527, ?_⟩
  refine List.forall_mem_cons.mpr ⟨h _ (fm_T0_3 49 rfl rfl), ?_⟩
  refine List.forall_mem_cons.mpr ⟨h _ q_512, ?_⟩
  refine List.forall_mem_cons.mpr ⟨h _ q_513, ?_⟩
  refine List.forall_mem_cons.mpr ⟨h _ q_29, ?_⟩
  refine List.forall_mem_cons.mpr ⟨h _ q_30, ?_⟩
  refine List.forall_mem_cons.mpr ⟨h _ q_514, ?_⟩
  refine List.forall_mem_cons.mpr ⟨h _ q_519, ?_⟩
  refine List.forall_mem_cons.mpr ⟨h _ q_525, ?_⟩
  refine List.forall_mem_cons.mpr ⟨h _ q_541, ?_⟩
  refine List.forall_mem_cons.mpr ⟨h _ q_501, ?_⟩
  refine List.forall_mem_cons.mpr ⟨h _ q_542, ?_⟩
  refine List.forall_mem_cons.mpr ⟨h _ q_503, ?_⟩
  refine List.forall_mem_cons.mpr ⟨h _ q_543, ?_⟩
  refine List.forall_mem_cons.mpr ⟨h _ q_505, ?_⟩
  refine List.forall_mem_cons.mpr ⟨h _ q_515, ?_⟩
  refine List.forall_mem_cons.mpr ⟨s1, ?_⟩
  refine List.forall_mem_cons.mpr ⟨h _ q_517, ?_⟩
  refine List.forall_mem_cons.mpr ⟨s2, ?_⟩
  refine List.forall_mem_cons.mpr ⟨h _ q_507, ?_⟩
  refine List.forall_mem_cons.mpr ⟨h _ q_837, ?_⟩
  refine List.forall_mem_cons.mpr ⟨h _ q_838, ?_⟩
  refine List.forall_mem_cons.mpr ⟨h _ q_839, ?_⟩
  refine List.forall_mem_cons.mpr ⟨h _ q_534, ?_⟩
  refine List.forall_mem_cons.mpr ⟨hd _ (by decide), ?_⟩
  refine List.forall_mem_cons.mpr ⟨h _ q_534, ?_⟩
  refine List.forall_mem_cons.mpr ⟨h _ q_535, ?_⟩
  refine List.forall_mem_cons.mpr ⟨h _ q_536, ?_⟩
  refine List.forall_mem_cons.mpr ⟨h _ q_537, ?_⟩
  refine List.forall_mem_cons.mpr ⟨hd _ (by decide), ?_⟩
  refine List.forall_mem_cons.mpr ⟨h _ q_537, ?_⟩
  refine List.forall_mem_cons.mpr ⟨h _ q_538, ?_⟩
  refine List.forall_mem_cons.mpr ⟨h _ q_539, ?_⟩
  refine List.forall_mem_cons.mpr ⟨h _ q_512, ?_⟩
  refine List.forall_mem_cons.mpr ⟨hd _ (by decide), ?_⟩
  refine List.forall_mem_cons.mpr ⟨h _ q_836, ?_⟩
  refine List.forall_mem_cons.mpr ⟨h _ q_828, ?_⟩
  refine List.forall_mem_cons.mpr ⟨hca, ?_⟩
  refine List.forall_mem_cons.mpr ⟨h _ q_830, ?_⟩
  refine List.forall_mem_cons.mpr ⟨h _ q_523, ?_⟩
  refine List.forall_mem_cons.mpr ⟨h _ q_831, ?_⟩
  refine List.forall_mem_cons.mpr ⟨h _ q_832, ?_⟩
  refine List.forall_mem_cons.mpr ⟨h _ q_833, ?_⟩
  refine List.forall_mem_cons.mpr ⟨h _ q_834, ?_⟩
  refine List.forall_mem_cons.mpr ⟨r1, ?_⟩
  refine List.forall_mem_cons.mpr ⟨r2, ?_⟩
  refine List.forall_mem_cons.mpr ⟨h _ q_510, ?_⟩
  refine List.forall_mem_cons.mpr ⟨h _ q_509, ?_⟩
  refine List.forall_mem_cons.mpr ⟨h _ q_835, ?_⟩
  exact fun _ hw => by cases hw
theorem fx_fit : ∀ E ∈ fx_exc, Bundle.fit E = true := by decide +kernel
theorem fx_fitU : ∀ n ∈ fx_ups, Bundle.fit n = true := by decide +kernel
section FXR
variable {p : Program} {l : Launch} {e : Env} {R : Room} {s : State} {m : MethodId} {args : Array Value} {below : List Frame} {meth : Method} {c : Code}
variable {lay : Nat → Nat × Nat} {nf : Nat → Nat} {fk : Nat → Nat → Nat} {cl : List vw_C} {b : Nat} {x : Nat → Nat} {D : va_G} {dA : Nat → ClassId} {nL : Nat} {cc : ByteArray} {own : String} {tys : List (ClassId × FieldType)}
variable {pc : Nat} {lv : List (Nat × Value)} {n : Nat} {M : fm_M} {z : Nat × Nat}
theorem fx_throw (hc : fm_Cx p s m args meth c cl b D nL cc own fm_T0 tys) (htr : l.stackTraces = false) (hTX : fx_TX b s) {E : String} {ix ic : Nat} {post : Option Value → Nat → fm_M → Prop} {xpost : String → Nat → fm_M → Prop} {mc ms : Nat} (hE : E ∈ fx_exc) (hO : fx_Own own ic E)
    (hlink : Cond.classLink own ix E ∈ fm_T0) (hins : Cond.instantiable E 6 ∈ fm_T0) (hini : Cond.initialized E ∈ fm_T0) (hd0 : decode cc pc = .ok (.new ix, 3)) (hd3 : decode cc (pc + 3) = .ok (.dup, 1)) (hd4 : decode cc (pc + 4) = .ok (.invokespecial ic, 3)) (hd7 : decode cc (pc + 7) = .ok (.athrow, 1))
    (htab : ∀ h ∈ c.exceptionTable.toList, False) (hfr : 5 < R.frames) (hlo : 90 ≤ R.locals) (hz : z.1 + 1 ≤ mc ∧ z.2 + 6 ≤ ms ∧ z.1 + 1 ≤ R.cells ∧ z.2 + 6 ≤ R.slots) (hx : xpost E n M) :
    fm_G p l e R s m args below meth c (fx_MQ below (fx_Q lay nf fk cl b x D dA post xpost mc ms) args s) lay nf fk cl b x D dA nL pc lv [] n M z := by
  intro ls H locs h1 h2 h3 T hT X
  have X0 := fx_anew X (k1 := 1) (k2 := 6) hz.2.2.1 hz.2.2.2
  obtain ⟨s', hs'⟩ : ∃ s', s' = (T.setVm s.vm).setFrames (.invoking m args :: below) := ⟨_, rfl⟩
  rw [← hs'] at X0
  have hvm : s'.vm = s.vm := by rw [hs']; rfl
  have hhp : s'.heap = H := by rw [hs', ← hT]; rfl
  have hWs : s.WarmedH s'.vm := by rw [hvm]; exact State.WarmedH.refl s
  have hT0 : ∀ w ∈ fm_T0, w.before args s' = true := fun w hw => pay_in hc.2.2.2.2.1 (fun w hw => ⟨hw, fm_T0_good w hw⟩) w hw args s' hWs
  have hkept : ∀ a : Nat, a < s.heap.size → ¬ fm_A b a → s'.heap[a]? = s.heap[a]? := fun a g1 g2 => by rw [hhp]; exact h3.2.1 a g1 g2
  have hTX' : fx_TX b s' := fx_TX.st b s s' hWs hkept hTX
  have hown' : s'.vm.findClass own = some m.cls := by rw [hvm]; exact hc.2.2.2.1
  have hat : ∀ w ∈ Bundle.ownAtoms0 own ic E fx_ups, w.before args s' = true :=
    hO (fun w => w.before args s' = true) hT0 (fun Y hY => va_tabs rfl rfl (hTX'.2.1 Y hY)) (va_tabs rfl rfl (hTX'.1 E hE)) hTX'.2.2.1.lays hTX'.2.2.2.1.lays hTX'.2.2.1.isRef hTX'.2.2.2.1.isRef
  have htr' : e.platform.stackTraces = false := by rw [Example.NoTraceControls.admits_follows X.admits]; exact htr
  obtain ⟨g0, hg0⟩ : ∃ g, g = F0 m pc ls [] := ⟨_, rfl⟩
  have hgm : g0.method = m := by rw [hg0]
  have hgp : g0.pc = pc := by rw [hg0]
  obtain ⟨vm1, cX, kX, hfX, hkX, -, -, X1, st1⟩ := X0.newCold hc.1 (own := own) (C := E) (index := ix) (n := 6) hown' (hT0 _ hlink) (hT0 _ hins) (hT0 _ hini) (g := g0) hgm (by rw [hc.2.1, hgp]; exact hd0) (Nat.le_refl 1) (Nat.le_refl 6)
  obtain ⟨T1, hT1⟩ : ∃ T1, T1 = (T.setVm vm1).pushCell { cls := cX, slots := kX.instanceTypes.map defaultValue, vm := .none } := ⟨_, rfl⟩
  rw [← hT1] at X1 st1
  have hcellA : T1.heap[T.heap.size]? = some (freshCell cX kX) := by rw [hT1]; exact State.heap_pushCell_size _ _
  obtain ⟨U, hsteps, hrun, hend, hW, hsame, ce, hce, K⟩ := X1.ctorThrow0 hc.1 htr' (own := own) (cls := E) (names := fx_ups) (ic := ic) hown' (fx_fit E hE) fx_fitU hat (fun y hy => by cases hy) hfX hkX hcellA (by rw [hhp, hT]; exact Nat.le_refl _)
    (g := F0 m (pc + 4) ls [.ref T.heap.size, .ref T.heap.size]) rfl (by rw [hc.2.2.1]; exact h1.1) rfl rfl (rest := []) rfl (by rw [hc.2.1]; exact hd4) (by rw [hc.2.1]; exact hd7) (fun w hw => (htab w hw).elim) hfr (by simp [fx_ups, Value.category, JFrame.monitorRoom]; omega) hc.2.2.2.2.2.2.2
  have hgo : Steps p.tables e below (T.setTop (F0 m pc ls [])) U := by
    rw [← hg0]
    refine st1 _ ?_
    rw [hg0]
    show Steps p.tables e below (T1.setTop (F0 m (pc + 3) ls [.ref T.heap.size])) _
    jvm_step X1.here [X1.here.top, hc.1, hc.2.1, hd3, Value.category]
    exact hsteps
  have hsT : (T.setVm s.vm).sameButNew ({ U with vm := s.vm } : State) [] 1 6 := by
    obtain ⟨e2, q2, q3, q4, q5, q6⟩ := hsame
    rw [hs', State.setFrames_setFrames] at e2
    rw [hs'] at q2 q3 q4 q5 q6
    exact ⟨e2, q2, q3, q4, q5, q6⟩
  have hsm : s.sameButNew ({ U with vm := s.vm } : State) locs mc ms := (X.same.trans hsT).weaken (fun y hy _ => by simpa using hy) hz.1 hz.2.1
  have hkU : ∀ a : Nat, a < H.size → U.heap[a]? = H[a]? := by
    intro a ha
    obtain ⟨-, -, -, -, -, q6⟩ := hsame
    rw [hhp] at q6
    have hca : H[a]? = some H[a] := Array.getElem?_eq_getElem ha
    obtain ⟨c', g1, g2, g3, g4⟩ := q6 a _ hca
    have g1' : U.heap[a]? = some c' := g1
    rw [g1', hca, g2]
    have g5 : c'.slots = H[a].slots := Array.ext_getElem? fun i => g4 i (by simp)
    rw [g5]
  have hszU : H.size ≤ U.heap.size := by
    obtain ⟨-, q2, -⟩ := hsame
    rw [hhp] at q2
    exact q2
  refine ⟨U, hgo, .threw T.heap.size, hrun, hend, ⟨?_, locs, hsm, h3.2.2⟩, ⟨Nat.le_trans h3.1 hszU, fun q g1 g2 => ?_⟩, Or.inr ⟨T.heap.size, E, ce, n, M, rfl, hx, hce, K.vm, ?_, ?_⟩⟩
  · exact State.WarmedH.of_rootvm (u := s) hvm.symm hW
  · rw [hkU q (Nat.lt_of_lt_of_le g1 h3.1)]; exact h3.2.1 q g1 g2
  · rw [← hvm]; exact K.cls
  · refine h2.kept fun k q hk => ?_
    exact hkU q.1 (h2 k q hk).lt
end FXR
