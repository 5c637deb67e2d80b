/-! EXCEPTIONS: what java.lang.Throwable and the three thrown classes hold outside: two statics of Throwable, casts, constructors' words -/
abbrev fx_IAE : String := "java/lang/IllegalArgumentException"
abbrev fx_ISE : String := "java/lang/IllegalStateException"
abbrev fx_IOE : String := "java/lang/IndexOutOfBoundsException"
abbrev fx_exc : List String := [fx_IAE, fx_ISE, fx_IOE]
abbrev fx_ups : List String := ["java/lang/RuntimeException", "java/lang/Exception"]
/-- a static of Throwable that holds a reference or null, and lies where the run does not write -/
def fx_Sv (b : Nat) (nm d : String) (U : State) : Prop := ∃ (c : ClassId) (k : Class) (i : Nat) (f : Field) (a : Nat) (cell : Cell) (v : Value), U.vm.findClass Bundle.tN = some c ∧ U.fieldFound? Bundle.tN nm d = some (c, k, i, f) ∧ f.isStatic = true ∧ k.statics = some a ∧ U.heap[a]? = some cell ∧
  cell.vm.isStatics = true ∧ cell.cls = c ∧ f.slot < cell.slots.size ∧ k.staticTypes[f.slot]? = some f.type ∧ cell.slots[f.slot]? = some v ∧ v.isRef = true ∧ ¬ fm_A b a
theorem fx_Sv.st (b : Nat) (nm d : String) : fm_St b (fx_Sv b nm d) := by
  intro u U hW hk h
  obtain ⟨c, k, i, f, a, cell, v, h1, h2, h3, h4, h5, h6, h7, h8, h9, h10, h11, h12⟩ := h
  obtain ⟨k', g2, gk⟩ := State.fieldFound?_setVm hW.alike h2
  refine ⟨c, k', i, f, a, cell, v, by rw [hW.alike.findClass]; exact h1, g2, h3, by rw [gk]; exact h4, ?_, h6, h7, h8, by rw [gk]; exact h9, h10, h11, h12⟩
  rw [hk a (Array.getElem?_eq_some_iff.mp h5).1 h12]
  exact h5
theorem fx_Sv.lays {b : Nat} {nm d : String} {U : State} {A : Array Value} (h : fx_Sv b nm d U) : (Cond.laysStatic Bundle.tN nm d).before A U = true := by
  obtain ⟨c, k, i, f, a, cell, v, h1, h2, h3, h4, h5, h6, h7, h8, h9, h10, h11, h12⟩ := h
  exact Cond.laysStatic_of h1 h2 h3 h4 h5 h6 h7 h8 h9
theorem fx_Sv.isRef {b : Nat} {nm d : String} {U : State} {A : Array Value} (h : fx_Sv b nm d U) : (Cond.isRef (.static Bundle.tN nm d)).before A U = true := by
  obtain ⟨c, k, i, f, a, cell, v, h1, h2, h3, h4, h5, h6, h7, h8, h9, h10, h11, h12⟩ := h
  simp [Cond.before, Cond.holds, Cond.value, Term.eval, State.fieldNamed?, h2, h3, h4, h5, h6, h10]
  cases v <;> first | rfl | cases h11
def fx_TX (b : Nat) (U : State) : Prop :=
  (∀ E ∈ fx_exc, va_Nw (.castable E E) U) ∧ (∀ Y ∈ fx_ups ++ [Bundle.tN], va_Nw (.declares ⟨Y, "<init>", "()V"⟩) U) ∧ fx_Sv b "UNASSIGNED_STACK" Bundle.steD U ∧ fx_Sv b "SUPPRESSED_SENTINEL" Bundle.listD U ∧
  va_Nc fx_ISE fx_IAE U ∧ va_Nc fx_ISE fx_IOE U ∧ va_Nc fx_IOE fx_IAE U ∧ va_Nc fx_IOE fx_ISE U ∧ va_Nc fx_IAE fx_ISE U ∧ va_Nc fx_IAE fx_IOE U
theorem fx_Nc_st (b : Nat) (C T : String) : fm_St b (va_Nc C T) := by
  intro u U hW _ h
  obtain ⟨c, t, h1, h2, h3⟩ := h
  exact ⟨c, t, by rw [hW.alike.findClass]; exact h1, by rw [hW.alike.findClass]; exact h2, by rw [hW.alike.assignable]; exact h3⟩
theorem fx_TX.st (b : Nat) : fm_St b (fx_TX b) := by
  intro u U hW hk h
  obtain ⟨h1, h2, h3, h4, h5, h6, h7, h8, h9, h10⟩ := h
  refine ⟨fun E hE => ?_, fun Y hY => va_Nw.warmD hW (h2 Y hY), fx_Sv.st b _ _ u U hW hk h3, fx_Sv.st b _ _ u U hW hk h4, fx_Nc_st b _ _ u U hW hk h5, fx_Nc_st b _ _ u U hW hk h6, fx_Nc_st b _ _ u U hW hk h7, fx_Nc_st b _ _ u U hW hk h8, fx_Nc_st b _ _ u U hW hk h9, fx_Nc_st b _ _ u U hW hk h10⟩
  refine va_tabs (u := u.setVm U.vm) rfl rfl (A := #[]) ?_
  rw [Cond.castable_setVm hW.alike]
  exact h1 E hE
