/-! THE CLAIM OUT OF ONE WALK (begun from the kit's skeleton) -/
def R_law : String := "AgentNetLaw"
def lw_P (b : Addr) (xs : List Int32) (args : Array Value) (s : State) : Prop := args = #[.ref b] ∧ s.IntsAt b xs ∧ xs.length ≤ 2560 ∧ (Jvm.Cond.and given_1 narrow_1).before args s = true
def lw_Q (_ : Array Value) (s : State) (o : Outcome) (t : State) : Prop := o = .returned (some (.int 1)) ∧ Framed s o t [] 601024 7293034
def lw_Z (below : List Frame) (a : Array Value) (s : State) : State → Prop := fun t => ∃ o, t.status = .running ∧ Ended t below o ∧ lw_Q a s o t
/-- the law's own end, with 1 on the stack, nothing written that was there before, its room as the claim has it -/
theorem lw_ret {p : Program} {l : Launch} {e : Env} {s : State} {m : MethodId} {below : List Frame} {meth : Method} {c : Code} {b : Nat} (hx : p.tables.exec = Jvm.exec) (hb : c.code = code) (hr : meth.sig.returnType = ret) (hlocks : meth.locks = false) {pc : Nat} {H : Heap} {ls : Array Slot} (hdg : decode code pc = .ok (.ireturn, 1)) : W p l e room_1 s m #[Value.ref b] below meth c H [] 601024 7293034 (lw_Z below #[Value.ref b] s) (F0 m pc ls [.int 1]) := by
  intro T hT X
  obtain ⟨fs, hret, hrun, hended, hW, hframe⟩ := X.leave (v := some (.int 1)) (hlocks := hlocks) (fun h => by rw [hr] at h; cases h)
  have hmeth' : T.vm.method? m = some meth := X.method'
  refine ⟨T.setFrames fs, ?_, .returned (some (.int 1)), hrun, hended, rfl, ⟨_, rfl⟩, hW, hframe⟩
  jvm_step X.here [X.here.top, hx, hb, hdg, hmeth', hr, ret, narrow_b1]
  (try refine ⟨rfl, ?_⟩); (try refine ⟨rfl, ?_⟩)
  first | (intro acts; rw [hret _ acts rfl rfl rfl]) | rw [hret _ _ rfl rfl rfl]
  exact Steps.refl _
/-- what holds at the law's entry: the machine, the code, the tables' words (any of lw_tbl by 'hts w (by decide +kernel)'), the script of L ints xs at the cell b, what the Statement gives of the start (any of its parts by flat_of_before) -/
def lw_At (p : Program) (s : State) (m : MethodId) (meth : Method) (c : Code) (b L : Nat) (xs : Nat → Int32) : Prop :=
  p.tables.exec = Jvm.exec ∧ c.code = code ∧ meth.sig.returnType = ret ∧ c.maxLocals = 7 ∧ s.vm.findClass R_law = some m.cls ∧ (∀ w ∈ lw_tbl, w.before #[Value.ref b] s = true) ∧ va_X b L xs s s.heap ∧ b < s.heap.size ∧ meth.locks = false ∧ (Jvm.Cond.and given_1 narrow_1).before #[Value.ref b] s = true
/-- the law's end -/
theorem fm_lwret {p : Program} {l : Launch} {e : Env} {s : State} {m : MethodId} {below : List Frame} {meth : Method} {c : Code} {b0 b n : Nat} {x : Nat → Nat} {D : va_G} {dA : Nat → ClassId} {lv : List (Nat × Value)} {M : fm_M} {z : Nat × Nat} (hc : fm_Cx p s m #[Value.ref b0] meth c fm_cl b D 7 b_Lw_law "AgentNetLaw" fm_T0 (fm_tys dA)) (hb : s.heap.size = b) (hr : meth.sig.returnType = ret) (hz1 : z.1 ≤ 601024) (hz2 : z.2 ≤ 7293034) : fm_G p l e room_1 s m #[Value.ref b0] below meth c (lw_Z below #[Value.ref b0] s) fm_lay fm_nf fm_fk fm_cl b x D dA 7 1097 lv [] n M z := by
  refine fm_iconst (v := nI 1) hc d_Lw_law_1097 rfl ?_
  intro ls H locs h1 h2 h3
  refine va_forget (fun q hq => ?_) ?_
  · have h9 : b ≤ q.base := h3.2.2 q hq
    omega
  refine W.widen (k := 601024) (n := 7293034) hz1 hz2 ?_
  exact lw_ret hc.1 hc.2.1 hr hc.2.2.2.2.2.2.2 d_Lw_law_1098
/-- the law's loop: from any world on, k calls left -/
theorem lw_loop {p : Program} {l : Launch} {e : Env} {s : State} {m : MethodId} {below : List Frame} {meth : Method} {c : Code} {b L : Nat} {xs : Nat → Int32} {x : Nat → Nat} {D : va_G} {dA : Nat → ClassId} (htr : l.stackTraces = false) (hc : fm_Cx p s m #[Value.ref b] meth c fm_cl s.heap.size D 7 b_Lw_law "AgentNetLaw" fm_T0 (fm_tys dA)) (hex : fm_EX s.heap.size x s) (hr : meth.sig.returnType = ret) (hX : va_X (x 0) L xs s s.heap) (hxl : x 0 < s.heap.size) (hxb : x 0 < s.heap.size) (hlen : L < 2 ^ 29) : ∀ (k i : Nat) (M : fm_M) (z : Nat × Nat), i ≤ L → L < i + 5 * k + 5 → w_W M → z.1 + k ≤ 601024 → z.2 + 6 * k ≤ 7293034 → fm_G p l e room_1 s m #[Value.ref b] below meth c (lw_Z below #[Value.ref b] s) fm_lay fm_nf fm_fk fm_cl s.heap.size x D dA 7 23 [(4, .int (nI i)), (3, .ref 629), (2, .ref 586), (1, .ref 8), (0, .ref 0)] [] 630 M z := by
  have rc : room_1.cells = 601024 := rfl
  have rs : room_1.slots = 7293034 := rfl
  intro k
  induction k with
  | zero =>
    intro i M z hi h5 hW z1 z2
    exact lw_leave (i := i) hc hex hX hxl hxb (by omega) (by omega) (by omega) (fm_lwret hc rfl hr (by omega) (by omega))
  | succ k ih =>
    intro i M z hi h5 hW z1 z2
    by_cases hL5 : L < i + 5
    · exact lw_leave (i := i) hc hex hX hxl hxb (by omega) (by omega) (by omega) (fm_lwret hc rfl hr (by omega) (by omega))
    · have k0 : ∀ M', w_W M' → fm_G p l e room_1 s m #[Value.ref b] below meth c (lw_Z below #[Value.ref b] s) fm_lay fm_nf fm_fk fm_cl s.heap.size x D dA 7 1091 [(4, .int (nI i)), (3, .ref 629), (2, .ref 586), (1, .ref 8), (0, .ref 0)] [] 630 M' z := fun M' hM => lw_next (i := i) hc (ih (i + 5) M' z (by omega) (by omega) hM (by omega) (by omega))
      have k6 : ∀ M', w_W M' → fm_G p l e room_1 s m #[Value.ref b] below meth c (lw_Z below #[Value.ref b] s) fm_lay fm_nf fm_fk fm_cl s.heap.size x D dA 7 1091 [(4, .int (nI i)), (3, .ref 629), (2, .ref 586), (1, .ref 8), (0, .ref 0)] [] 630 M' (z.1 + 1, z.2 + 6) := fun M' hM => lw_next (i := i) hc (ih (i + 5) M' (z.1 + 1, z.2 + 6) (by omega) (by omega) hM (by show z.1 + 1 + k ≤ 601024; omega) (by show z.2 + 6 + 6 * k ≤ 7293034; omega))
      have hz0 : z.1 + 0 ≤ room_1.cells ∧ z.2 + 0 ≤ room_1.slots := by rw [rc, rs]; omega
      have hz6 : z.1 + 1 ≤ room_1.cells ∧ z.2 + 6 ≤ room_1.slots := by rw [rc, rs]; omega
      refine lw_enter (i := i) hc hex hX hxl hxb (by omega) (by omega) ?_
      exact lw_switch (i := i) hc (g_program htr hc hex hX hxl hxb (by omega) (by omega) hz0 hW k0) (g_table htr hc hex hX hxl hxb (by omega) (by omega) hz0 hW k0) (g_launch htr hc hex hX hxl hxb (by omega) (by omega) hz6 hW k6) (g_step htr hc hex hX hxl hxb (by omega) (by omega) hz6 hW k6) (g_tick htr hc hex hX hxl hxb (by omega) (by omega) hz6 hW k6) (g_checkpoint htr hc hex hX hxl hxb (by omega) (by omega) hz6 hW k6) (g_write htr hc hex hX hxl hxb (by omega) (by omega) hz6 hW k6) (g_crash htr hc hex hX hxl hxb (by omega) (by omega) hz6 hW k6) (g_start htr hc hex hX hxl hxb (by omega) (by omega) hz6 hW k6) (g_net htr hc hex hX hxl hxb (by omega) (by omega) hz6 hW k6) (g_message htr hc hex hX hxl hxb (by omega) (by omega) hz0 hW k0) (g_slot htr hc hex hX hxl hxb (by omega) (by omega) hz0 hW k0) (g_agent htr hc hex hX hxl hxb (by omega) (by omega) hz0 hW k0) (g_host htr hc hex hX hxl hxb (by omega) (by omega) hz0 hW k0) (g_sealed htr hc hex hX hxl hxb (by omega) (by omega) hz0 hW k0) (g_outputs htr hc hex hX hxl hxb (by omega) (by omega) hz0 hW k0) (g_output htr hc hex hX hxl hxb (by omega) (by omega) hz0 hW k0) (g_expected htr hc hex hX hxl hxb (by omega) (by omega) hz0 hW k0) (g_expectedOutput htr hc hex hX hxl hxb (by omega) (by omega) hz0 hW k0) (k0 M hW)
