/-! THE START: the tables' classes, what lies outside, the opening of the law -/
theorem st_in {w : Cond} (h : w ∈ tables_1) : w ∈ lw_tbl := List.mem_append_right _ h
theorem st_prim {args : Array Value} {s : State} {ty : FieldType} (hno : ∀ C, ty ≠ .object C) (h : (Cond.arrayClass ty).before args s = true) : ∃ c, ArrOfT s c ty ∧ va_RA s c ty := by
  obtain ⟨c, k, comp, h1, h2, h3⟩ := Cond.arrayClass_spec h
  refine ⟨c, fun n z => ⟨fun k h => (by cases h), k, h2, comp, h3⟩, ?_⟩
  cases ty with
  | object C => exact absurd rfl (hno C)
  | _ => exact h1
theorem st_obj {args : Array Value} {s : State} {C : String} (h : (Cond.arrayOver (.object C)).before args s = true) : ∃ c, ArrOfT s c (.object C) ∧ va_RA s c (.object C) := by
  obtain ⟨comp, c, k, h1, -, h3, h4, h5⟩ := Cond.arrayOver_spec h
  exact ⟨c, fun n z => ⟨fun k h => (by cases h), k, h3, comp, h4⟩, k, comp, h3, h4, h1, h5⟩
theorem st_arr {args : Array Value} {s : State} (h : (Cond.arrayOver (.array .int)).before args s = true) : ∃ c, ArrOfT s c (.array .int) ∧ va_RA s c (.array .int) := by
  obtain ⟨comp, c, k, h1, h3, h4, h5⟩ := Cond.arrayOver_specA h
  exact ⟨c, fun n z => ⟨fun k h => (by cases h), k, h3, comp, h4⟩, h5⟩
theorem st_cls {args : Array Value} {s : State} (h0 : ∀ w ∈ fm_T0, w.before args s = true) (c : Nat) : ∃ (cC : ClassId) (iS : Nat → Nat), ∀ q, fm_cl[c]? = some q → u_Kn s q.1 q.2.1 q.2.2 cC iS := by
  by_cases hc : c < 12
  · rcases (show c = 0 ∨ c = 1 ∨ c = 2 ∨ c = 3 ∨ c = 4 ∨ c = 5 ∨ c = 6 ∨ c = 7 ∨ c = 8 ∨ c = 9 ∨ c = 10 ∨ c = 11 by omega) with rfl | rfl | rfl | rfl | rfl | rfl | rfl | rfl | rfl | rfl | rfl | rfl
    · obtain ⟨cC, iS, h⟩ := u_known h0 K_An.2.2.1 (h0 _ q_24)
      exact ⟨cC, iS, fun q hq => by cases hq; exact h⟩
    · obtain ⟨cC, iS, h⟩ := u_known h0 K_Sc.2.2.1 (h0 _ q_274)
      exact ⟨cC, iS, fun q hq => by cases hq; exact h⟩
    · obtain ⟨cC, iS, h⟩ := u_known h0 K_Sy.2.2.1 (h0 _ q_145)
      exact ⟨cC, iS, fun q hq => by cases hq; exact h⟩
    · obtain ⟨cC, iS, h⟩ := u_known h0 K_Nu.2.2.1 (h0 _ q_101)
      exact ⟨cC, iS, fun q hq => by cases hq; exact h⟩
    · obtain ⟨cC, iS, h⟩ := u_known h0 K_Wi.2.2.1 (h0 _ q_38)
      exact ⟨cC, iS, fun q hq => by cases hq; exact h⟩
    · obtain ⟨cC, iS, h⟩ := u_known h0 K_Tr.2.2.1 (h0 _ q_166)
      exact ⟨cC, iS, fun q hq => by cases hq; exact h⟩
    · obtain ⟨cC, iS, h⟩ := u_known h0 K_Me.2.2.1 (h0 _ q_292)
      exact ⟨cC, iS, fun q hq => by cases hq; exact h⟩
    · obtain ⟨cC, iS, h⟩ := u_known h0 K_Fr.2.2.1 (h0 _ q_158)
      exact ⟨cC, iS, fun q hq => by cases hq; exact h⟩
    · obtain ⟨cC, iS, h⟩ := u_known h0 K_Si.2.2.1 (h0 _ q_286)
      exact ⟨cC, iS, fun q hq => by cases hq; exact h⟩
    · obtain ⟨cC, iS, h⟩ := u_known h0 K_Ms.2.2.1 (h0 _ q_45)
      exact ⟨cC, iS, fun q hq => by cases hq; exact h⟩
    · obtain ⟨cC, iS, h⟩ := u_known h0 K_Pr.2.2.1 (h0 _ q_95)
      exact ⟨cC, iS, fun q hq => by cases hq; exact h⟩
    · obtain ⟨cC, iS, h⟩ := u_known h0 K_Mo.2.2.1 (h0 _ q_876)
      exact ⟨cC, iS, fun q hq => by cases hq; exact h⟩
  · refine ⟨0, fun _ => 0, fun q hq => ?_⟩
    have h12 : fm_cl.length = 12 := rfl
    have := (List.getElem?_eq_some_iff.mp hq).1
    omega
theorem st_K {args : Array Value} {s : State} (hts : ∀ w ∈ lw_tbl, w.before args s = true) : ∃ (D : va_G) (dA : Nat → ClassId), va_K D fm_cl (fm_tys dA) s := by
  have h0 : ∀ w ∈ fm_T0, w.before args s = true := fun w hw => hts w (List.mem_filter.mp hw).1
  obtain ⟨a0, r0⟩ := st_prim (ty := .int) (fun C h => by cases h) (h0 _ q_80)
  obtain ⟨a1, r1⟩ := st_prim (ty := .boolean) (fun C h => by cases h) (h0 _ q_255)
  obtain ⟨a2, r2⟩ := st_prim (ty := .byte) (fun C h => by cases h) (h0 _ q_81)
  obtain ⟨a3, r3⟩ := st_prim (ty := .long) (fun C h => by cases h) (h0 _ q_122)
  obtain ⟨a4, r4⟩ := st_obj (C := "AgentNet$Script") (hts _ (st_in (List.mem_of_getElem? (i := 32) (by decide +kernel))))
  obtain ⟨a5, r5⟩ := st_obj (C := "AgentNet$Site") (hts _ (st_in (List.mem_of_getElem? (i := 36) (by decide +kernel))))
  obtain ⟨a6, r6⟩ := st_obj (C := "AgentNet$Message") (hts _ (st_in (List.mem_of_getElem? (i := 44) (by decide +kernel))))
  obtain ⟨a7, r7⟩ := st_obj (C := "AgentNet$Traveller") (hts _ (st_in (List.mem_of_getElem? (i := 298) (by decide +kernel))))
  obtain ⟨a8, r8⟩ := st_arr (hts _ (st_in (List.mem_of_getElem? (i := 34) (by decide +kernel))))
  refine ⟨(fun c => (st_cls h0 c).choose, fun c => (st_cls h0 c).choose_spec.choose), fun k => match k with
    | 100 => a0
    | 101 => a1
    | 102 => a2
    | 110 => a3
    | 120 => a4
    | 121 => a5
    | 122 => a6
    | 123 => a7
    | _ => a8, fun c q hq => (st_cls h0 c).choose_spec.choose_spec q hq, fun k q hq => ?_⟩
  have hk := (List.getElem?_eq_some_iff.mp hq).1
  have h9 : k < 9 := hk
  rcases (show k = 0 ∨ k = 1 ∨ k = 2 ∨ k = 3 ∨ k = 4 ∨ k = 5 ∨ k = 6 ∨ k = 7 ∨ k = 8 by omega) with rfl | rfl | rfl | rfl | rfl | rfl | rfl | rfl | rfl
  · cases hq; exact r0
  · cases hq; exact r1
  · cases hq; exact r2
  · cases hq; exact r3
  · cases hq; exact r4
  · cases hq; exact r5
  · cases hq; exact r6
  · cases hq; exact r7
  · cases hq; exact r8
theorem st_Sv {args : Array Value} {s : State} {nm d : String} (hl : (Cond.laysStatic Bundle.tN nm d).before args s = true) (hr : (Cond.isRef (.static Bundle.tN nm d)).before args s = true) : fx_Sv s.heap.size nm d s := by
  obtain ⟨c, k, i, f, a, cell, hc, hi, hst, ha, hcell, hs, hcls, hlt, hty⟩ := Cond.laysStatic_spec hl
  cases hv : (Term.static Bundle.tN nm d).eval args s none [] s with
  | none => simp [Cond.before, Cond.holds, Cond.value, hv] at hr
  | some w =>
    simp only [Cond.before, Cond.holds, Cond.value, hv] at hr
    obtain ⟨-, a', cell', ha', hcell', -, hslot⟩ := Term.static_spec hi hv
    cases ha.symm.trans ha'
    cases hcell.symm.trans hcell'
    refine ⟨c, k, i, f, a, cell, w, hc, hi, hst, ha, hcell, hs, hcls, hlt, hty, hslot, ?_, fun h => ?_⟩
    · cases w <;> first | rfl | simp at hr
    · have h1 := (Array.getElem?_eq_some_iff.mp hcell).1
      have h2 : s.heap.size ≤ a := h
      omega
theorem st_tab {args : Array Value} {s : State} {nm : String} {tab : List Int32} (hini : (Cond.initialized "AgentNet$Processor").before args s = true) (hl : (Cond.laysStatic "AgentNet$Processor" nm "[I").before args s = true) (harr : (Cond.arrayOf (.static "AgentNet$Processor" nm "[I") .int).before args s = true) (hlen : (Cond.eq (.length (.static "AgentNet$Processor" nm "[I")) (.int 20)).before args s = true) (hel : ∀ j : Nat, j < 20 → (Cond.eq (.elem (.static "AgentNet$Processor" nm "[I") (.int (Int32.ofNat j))) (.int (tab.getD j 0))).before args s = true) :
    ∃ t : Nat, va_Z "AgentNet$Processor" nm "[I" (.ref t) (fm_A s.heap.size) s s.heap ∧ va_T .int t 20 (fun j => .int (tab.getD j 0)) (fm_A s.heap.size) s s.heap := by
  have hA : ∀ a : Nat, a < s.heap.size → ¬ fm_A s.heap.size a := fun a h1 h2 => by
    have h3 : s.heap.size ≤ a := h2
    omega
  obtain ⟨t, h1, h2⟩ := va_Tof (N := 20) (f := fun j => .int (tab.getD j 0)) (by decide) harr (va_eqt hlen) (fun j hj => va_eqt (hel j hj)) hA
  exact ⟨t, va_Zref hl hini h1 hA, h2⟩
theorem st_f0 : ∀ j, j < 20 → Cond.eq (.elem (.static "AgentNet$Processor" "SIZES" "[I") (.int (Int32.ofNat j))) (.int (fm_tab0.getD j 0)) ∈ flatC (Jvm.Cond.and given_1 narrow_1) := by decide +kernel
theorem st_f1 : ∀ j, j < 20 → Cond.eq (.elem (.static "AgentNet$Processor" "TAKES" "[I") (.int (Int32.ofNat j))) (.int (fm_tab1.getD j 0)) ∈ flatC (Jvm.Cond.and given_1 narrow_1) := by decide +kernel
theorem st_f2 : ∀ j, j < 20 → Cond.eq (.elem (.static "AgentNet$Processor" "GIVES" "[I") (.int (Int32.ofNat j))) (.int (fm_tab2.getD j 0)) ∈ flatC (Jvm.Cond.and given_1 narrow_1) := by decide +kernel
theorem st_f3 : ∀ j, j < 20 → Cond.eq (.elem (.static "AgentNet$Processor" "LOWER" "[I") (.int (Int32.ofNat j))) (.int (fm_tab3.getD j 0)) ∈ flatC (Jvm.Cond.and given_1 narrow_1) := by decide +kernel
theorem st_f4 : ∀ j, j < 20 → Cond.eq (.elem (.static "AgentNet$Processor" "UPPER" "[I") (.int (Int32.ofNat j))) (.int (fm_tab4.getD j 0)) ∈ flatC (Jvm.Cond.and given_1 narrow_1) := by decide +kernel
theorem st_EX {args : Array Value} {s : State} (hts : ∀ w ∈ lw_tbl, w.before args s = true) (hgv : (Jvm.Cond.and given_1 narrow_1).before args s = true) (b0 : Nat) : ∃ x : Nat → Nat, x 0 = b0 ∧ fm_EX s.heap.size x s := by
  have hs := flat_of_before _ hgv
  have h0 : ∀ w ∈ fm_T0, w.before args s = true := fun w hw => hts w (List.mem_filter.mp hw).1
  obtain ⟨t0, u0, v0⟩ := st_tab (nm := "SIZES") (tab := fm_tab0) (h0 _ q_4) (hts _ (st_in (List.mem_of_getElem? (i := 604) (by decide +kernel)))) (hs _ (by decide +kernel)) (hs _ (by decide +kernel)) (fun j hj => hs _ (st_f0 j hj))
  obtain ⟨t1, u1, v1⟩ := st_tab (nm := "TAKES") (tab := fm_tab1) (h0 _ q_4) (hts _ (st_in (List.mem_of_getElem? (i := 610) (by decide +kernel)))) (hs _ (by decide +kernel)) (hs _ (by decide +kernel)) (fun j hj => hs _ (st_f1 j hj))
  obtain ⟨t2, u2, v2⟩ := st_tab (nm := "GIVES") (tab := fm_tab2) (h0 _ q_4) (hts _ (st_in (List.mem_of_getElem? (i := 612) (by decide +kernel)))) (hs _ (by decide +kernel)) (hs _ (by decide +kernel)) (fun j hj => hs _ (st_f2 j hj))
  obtain ⟨t3, u3, v3⟩ := st_tab (nm := "LOWER") (tab := fm_tab3) (h0 _ q_4) (hts _ (st_in (List.mem_of_getElem? (i := 614) (by decide +kernel)))) (hs _ (by decide +kernel)) (hs _ (by decide +kernel)) (fun j hj => hs _ (st_f3 j hj))
  obtain ⟨t4, u4, v4⟩ := st_tab (nm := "UPPER") (tab := fm_tab4) (h0 _ q_4) (hts _ (st_in (List.mem_of_getElem? (i := 620) (by decide +kernel)))) (hs _ (by decide +kernel)) (hs _ (by decide +kernel)) (fun j hj => hs _ (st_f4 j hj))
  refine ⟨fun k => match k with
    | 0 => b0
    | 1 => t0
    | 2 => t1
    | 3 => t2
    | 4 => t3
    | _ => t4, rfl, ?_, ?_, ?_, ?_, ?_⟩
  · intro q hq
    rcases (List.mem_cons.mp hq) with rfl | hq
    · exact va_Nw.of rfl (hts _ (st_in (List.mem_of_getElem? (i := 46) (by decide +kernel))))
    rcases (List.mem_cons.mp hq) with rfl | hq
    · exact va_Nw.of rfl (hts _ (st_in (List.mem_of_getElem? (i := 96) (by decide +kernel))))
    rcases (List.mem_cons.mp hq) with rfl | hq
    · exact va_Nw.of rfl (hts _ (st_in (List.mem_of_getElem? (i := 102) (by decide +kernel))))
    rcases (List.mem_cons.mp hq) with rfl | hq
    · exact va_Nw.of rfl (hts _ (st_in (List.mem_of_getElem? (i := 146) (by decide +kernel))))
    rcases (List.mem_cons.mp hq) with rfl | hq
    · exact va_Nw.of rfl (hts _ (st_in (List.mem_of_getElem? (i := 159) (by decide +kernel))))
    rcases (List.mem_cons.mp hq) with rfl | hq
    · exact va_Nw.of rfl (hts _ (st_in (List.mem_of_getElem? (i := 164) (by decide +kernel))))
    rcases (List.mem_cons.mp hq) with rfl | hq
    · exact va_Nw.of rfl (hts _ (st_in (List.mem_of_getElem? (i := 167) (by decide +kernel))))
    rcases (List.mem_cons.mp hq) with rfl | hq
    · exact va_Nw.of rfl (hts _ (st_in (List.mem_of_getElem? (i := 275) (by decide +kernel))))
    rcases (List.mem_cons.mp hq) with rfl | hq
    · exact va_Nw.of rfl (hts _ (st_in (List.mem_of_getElem? (i := 300) (by decide +kernel))))
    rcases (List.mem_cons.mp hq) with rfl | hq
    · exact va_Nw.of rfl (hts _ (st_in (List.mem_of_getElem? (i := 304) (by decide +kernel))))
    rcases (List.mem_cons.mp hq) with rfl | hq
    · exact va_Nw.of rfl (hts _ (st_in (List.mem_of_getElem? (i := 425) (by decide +kernel))))
    rcases (List.mem_cons.mp hq) with rfl | hq
    · exact va_Nw.of rfl (hts _ (st_in (List.mem_of_getElem? (i := 470) (by decide +kernel))))
    rcases (List.mem_cons.mp hq) with rfl | hq
    · exact va_Nw.of rfl (hts _ (st_in (List.mem_of_getElem? (i := 618) (by decide +kernel))))
    rcases (List.mem_cons.mp hq) with rfl | hq
    · exact va_Nw.of rfl (hts _ (st_in (List.mem_of_getElem? (i := 668) (by decide +kernel))))
    rcases (List.mem_cons.mp hq) with rfl | hq
    · exact va_Nw.of rfl (hts _ (st_in (List.mem_of_getElem? (i := 746) (by decide +kernel))))
    exact absurd hq List.not_mem_nil
  · intro C hC
    rcases (List.mem_cons.mp hC) with rfl | hC
    · exact va_AO.of (hts _ (st_in (List.mem_of_getElem? (i := 32) (by decide +kernel))))
    rcases (List.mem_cons.mp hC) with rfl | hC
    · exact va_AO.of (hts _ (st_in (List.mem_of_getElem? (i := 36) (by decide +kernel))))
    rcases (List.mem_cons.mp hC) with rfl | hC
    · exact va_AO.of (hts _ (st_in (List.mem_of_getElem? (i := 44) (by decide +kernel))))
    rcases (List.mem_cons.mp hC) with rfl | hC
    · exact va_AO.of (hts _ (st_in (List.mem_of_getElem? (i := 298) (by decide +kernel))))
    exact absurd hC List.not_mem_nil
  · exact hts (Cond.arrayOver (.array .int)) (st_in (List.mem_of_getElem? (i := 34) (by decide +kernel)))
  · intro q hq
    rcases (List.mem_cons.mp hq) with rfl | hq
    · exact ⟨u0, v0⟩
    rcases (List.mem_cons.mp hq) with rfl | hq
    · exact ⟨u1, v1⟩
    rcases (List.mem_cons.mp hq) with rfl | hq
    · exact ⟨u2, v2⟩
    rcases (List.mem_cons.mp hq) with rfl | hq
    · exact ⟨u3, v3⟩
    rcases (List.mem_cons.mp hq) with rfl | hq
    · exact ⟨u4, v4⟩
    exact absurd hq List.not_mem_nil
  · refine ⟨?_, ?_, st_Sv (hts _ (st_in (List.mem_of_getElem? (i := 516) (by decide +kernel)))) (hs _ (by decide +kernel)), st_Sv (hts _ (st_in (List.mem_of_getElem? (i := 518) (by decide +kernel)))) (hs _ (by decide +kernel)), va_Nc.of (hs _ (by decide +kernel)), va_Nc.of (hs _ (by decide +kernel)), va_Nc.of (hs _ (by decide +kernel)), va_Nc.of (hs _ (by decide +kernel)), va_Nc.of (hs _ (by decide +kernel)), va_Nc.of (hs _ (by decide +kernel))⟩
    · intro E hE
      rcases (List.mem_cons.mp hE) with rfl | hE
      · exact va_Nw.of rfl (hts _ (st_in (List.mem_of_getElem? (i := 491) (by decide +kernel))))
      rcases (List.mem_cons.mp hE) with rfl | hE
      · exact va_Nw.of rfl (hts _ (st_in (List.mem_of_getElem? (i := 554) (by decide +kernel))))
      rcases (List.mem_cons.mp hE) with rfl | hE
      · exact va_Nw.of rfl (hts _ (st_in (List.mem_of_getElem? (i := 829) (by decide +kernel))))
      exact absurd hE List.not_mem_nil
    · intro Y hY
      rcases (List.mem_cons.mp hY) with rfl | hY
      · exact va_Nw.of rfl (hts _ (st_in (List.mem_of_getElem? (i := 492) (by decide +kernel))))
      rcases (List.mem_cons.mp hY) with rfl | hY
      · exact va_Nw.of rfl (hts _ (st_in (List.mem_of_getElem? (i := 494) (by decide +kernel))))
      rcases (List.mem_cons.mp hY) with rfl | hY
      · exact va_Nw.of rfl (hts _ (st_in (List.mem_of_getElem? (i := 496) (by decide +kernel))))
      exact absurd hY List.not_mem_nil
