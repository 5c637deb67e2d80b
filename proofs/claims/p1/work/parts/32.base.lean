/-! MORE RULES: an array of arrays made at once, a stack by another text, fields at an object's birth; and Arrays.fill -/
section FMX
variable {p : Program} {l : Launch} {e : Env} {R : Room} {s : State} {m : MethodId} {args : Array Value} {below : List Frame} {meth : Method} {c : Code} {Q : State → Prop}
variable {lay : Nat → Nat × Nat} {nf : Nat → Nat} {fk : Nat → Nat → Nat} {cl : List vw_C} {b : Nat} {x : Nat → Nat} {D : va_G} {dA : Nat → ClassId} {nL : Nat} {cc : ByteArray} {own : String} {Ts : List Cond} {tys : List (ClassId × FieldType)}
variable {pc : Nat} {lv lv' : List (Nat × Value)} {st st' : List Value} {n : Nat} {M : fm_M} {z : Nat × Nat}
theorem fm_st (h : st = st') (k : fm_G p l e R s m args below meth c Q lay nf fk cl b x D dA nL pc lv st' n M z) : fm_G p l e R s m args below meth c Q lay nf fk cl b x D dA nL pc lv st n M z := h ▸ k
theorem fm_mem {n' : Nat} {M' : fm_M} (hn : n = n') (h : M = M') (k : fm_G p l e R s m args below meth c Q lay nf fk cl b x D dA nL pc lv st n' M' z) : fm_G p l e R s m args below meth c Q lay nf fk cl b x D dA nL pc lv st n M z := hn ▸ h ▸ k
theorem fm_nm (k : ∀ M1 : fm_M, M1 = M → fm_G p l e R s m args below meth c Q lay nf fk cl b x D dA nL pc lv st n M1 z) : fm_G p l e R s m args below meth c Q lay nf fk cl b x D dA nL pc lv st n M z := k M rfl
theorem fm_cnt {z' : Nat × Nat} (h : z = z') (k : fm_G p l e R s m args below meth c Q lay nf fk cl b x D dA nL pc lv st n M z') : fm_G p l e R s m args below meth c Q lay nf fk cl b x D dA nL pc lv st n M z := h ▸ k
def fm_mm (M : fm_M) (n N : Nat) : fm_M := (fun o => if n ≤ o ∧ o ≤ n + N then (fun _ => 0) else M.1 o, fun o => if n ≤ o ∧ o ≤ n + N then (fun _ => 0) else M.2.1 o,
  fun o => if o = n then (fun i => if i < N then some (n + 1 + i) else none) else if n ≤ o ∧ o ≤ n + N then (fun _ => none) else M.2.2 o)
theorem fm_outer (cA : ClassId) (N h0 : Nat) : ∀ i : Nat, Jvm.Free.Multi.outerC cA N h0 i = arrV cA N (fun j => va_rf (if j < i then some (h0 + 1 + j) else none))
  | 0 => by
    show ({ cls := cA, slots := Array.replicate N .null, vm := .none } : Cell) = _
    rw [arrV_new]
    refine congrArg (arrV cA N) (funext fun j => ?_)
    rw [if_neg (Nat.not_lt_zero j)]
    rfl
  | i + 1 => by
    show (Jvm.Free.Multi.outerC cA N h0 i).setSlot i (.ref (h0 + 1 + i)) = _
    rw [fm_outer cA N h0 i, arrV_store]
    refine congrArg (arrV cA N) (funext fun j => ?_)
    by_cases hj : j = i
    · subst hj
      simp [updV, va_rf]
    · have h2 : (j < i + 1) ↔ (j < i) := by omega
      simp [updV, hj, h2]
theorem fm_multi (hc : fm_Cx p s m args meth c cl b D nL cc own Ts tys) {N K idx : Nat} (t0 t1 : Nat) (hd : decode cc pc = .ok (.multianewarray idx 2, 4)) (hw : Cond.classLink own idx "[[I" ∈ Ts) (hov : (Cond.arrayOver (.array .int)).before args s = true) (har : Cond.arrayClass .int ∈ Ts) (h8 : 8 ≤ n) (hl : lay n = (124, N)) (hli : ∀ i, i < N → lay (n + 1 + i) = (100, K))
    (ht0 : tys[t0]? = some (dA 124, .array .int)) (ht1 : tys[t1]? = some (dA 100, .int)) (hN : N < 1000) (hK : K < 1000) (ht : s.heap.size + z.1 = b + (n - 8)) (hcells : z.1 + (1 + N) ≤ R.cells) (hslots : z.2 + (N + N * K) ≤ R.slots)
    (kk : fm_G p l e R s m args below meth c Q lay nf fk cl b x D dA nL (pc + 4) lv (.ref n :: st) (n + 1 + N) (fm_mm M n N) (z.1 + 1 + N, z.2 + N + N * K)) : fm_G p l e R s m args below meth c Q lay nf fk cl b x D dA nL pc lv (.int (nI K) :: .int (nI N) :: st) n M z := by
  intro ls H locs h1 h2 h3 T0 hT X
  have hsz := fm_tight X hT h2 hc.2.2.2.2.2.2.1 h3 ht
  have eN : (nI N).toNatClampNeg = N := nI_clamp (by omega)
  have eK : (nI K).toNatClampNeg = K := nI_clamp (by omega)
  have hc4 : componentBytes .int ≤ 8 := by decide
  obtain ⟨vm₁, cA, comp, -, fA, fC, -, -, X', step⟩ := X.multianewarray2F hc.1 hc.2.2.2.1 (hc.2.2.2.2.1 _ hw) hov (hc.2.2.2.2.1 _ har) (g := F0 m pc ls (.int (nI K) :: .int (nI N) :: st.map (fm_v (fm_ad b x)))) rfl (by rw [hc.2.1]; exact hd) rfl (nI_pos (by omega)) (nI_pos (by omega)) (by rw [eN]; omega) (by rw [eK]; exact Nat.le_trans (Nat.mul_le_mul_left K hc4) (by omega)) (by rw [eK]; omega) rfl rfl (by rw [eN]; exact hcells) (by rw [eN, eK]; exact hslots)
  rw [eN, eK] at X' step
  have hcA : cA = dA 124 := Option.some.inj (fA.symm.trans (hc.2.2.2.2.2.1.2 t0 _ ht0).2)
  have hcc : comp = dA 100 := Option.some.inj (fC.symm.trans (hc.2.2.2.2.2.1.2 t1 _ ht1).2)
  subst hcA; subst hcc
  have hTh : (T0.setVm vm₁).heap = H := hT
  obtain ⟨f1, f2, -, -⟩ := Jvm.Free.Multi.fill_facts (T0.setVm vm₁) (dA 124) (dA 100) N K (defaultValue .int) N
  have hold := fun (a : Nat) (ha : a < H.size) => Jvm.Free.Multi.fill_old (T0.setVm vm₁) (dA 124) (dA 100) N K (defaultValue .int) (a := a) (by rw [hTh]; exact ha) N
  have hrow := fun (j : Nat) (hj : j < N) => Jvm.Free.Multi.fill_inner (T0.setVm vm₁) (dA 124) (dA 100) N K (defaultValue .int) N j hj
  generalize hF : Jvm.Free.Multi.fill (T0.setVm vm₁) (dA 124) (dA 100) N K (defaultValue .int) N = F at X' step f1 f2 hold hrow
  rw [hTh] at f1 f2
  have hP1 : va_P D cl (fm_ws lay nf fk b x dA (n + 1 + N) (fm_mm M n N)) F.heap := by
    intro i q hi
    have hil : i < n + 1 + N - 8 := by
      have := (List.getElem?_eq_some_iff.mp hi).1
      simpa [fm_ws] using this
    have hq : q = (fm_ad b x (i + 8), fm_cell lay nf fk (fm_ad b x) dA (fm_mm M n N) (i + 8)) := by
      have h := fm_ws_at (lay := lay) (nf := nf) (fk := fk) (b := b) (x := x) (dA := dA) (n := n + 1 + N) (M := fm_mm M n N) (o := i + 8) (by omega) (by omega)
      rw [show i + 8 - 8 = i by omega, hi] at h
      exact Option.some.inj h
    subst hq
    rw [fm_ad_in (show 8 ≤ i + 8 by omega), show i + 8 - 8 = i by omega]
    by_cases hlo : i + 8 < n
    · have h := h2 i (fm_ad b x (i + 8), fm_cell lay nf fk (fm_ad b x) dA M (i + 8)) (by
        have h := fm_ws_at (lay := lay) (nf := nf) (fk := fk) (b := b) (x := x) (dA := dA) (n := n) (M := M) (o := i + 8) (by omega) hlo
        rw [show i + 8 - 8 = i by omega] at h
        exact h)
      rw [fm_ad_in (show 8 ≤ i + 8 by omega), show i + 8 - 8 = i by omega] at h
      have g1 : ¬ (n ≤ i + 8 ∧ i + 8 ≤ n + N) := by omega
      have g2 : ¬ (i + 8 = n) := by omega
      rw [fm_cell_eq (M := M) (by simp only [fm_mm]; rw [if_neg g1]) (by simp only [fm_mm]; rw [if_neg g1]) (by simp only [fm_mm]; rw [if_neg g2, if_neg g1])]
      exact h.kept ((hold _ h.lt).trans (by rw [hTh]))
    · by_cases he : i + 8 = n
      · rw [he, fm_cell_ref hl (by omega)]
        show F.heap[b + i]? = some (vp_cell _ _)
        rw [show b + i = H.size by omega, f2, fm_outer, vp_cell_q]
        refine congrArg some (congrArg (arrV (dA 124) N) (funext fun j => ?_))
        have e9 : (fm_mm M n N).2.2 n = (fun i => if i < N then some (n + 1 + i) else none) := if_pos rfl
        show va_rf (if j < N then some (H.size + 1 + j) else none) = va_rf (((fm_mm M n N).2.2 n j).map (fm_ad b x))
        rw [e9]
        show va_rf (if j < N then some (H.size + 1 + j) else none) = va_rf ((if j < N then some (n + 1 + j) else none).map (fm_ad b x))
        by_cases hj : j < N
        · rw [if_pos hj, if_pos hj]
          show va_rf (some (H.size + 1 + j)) = va_rf (some (fm_ad b x (n + 1 + j)))
          rw [fm_ad_in (show 8 ≤ n + 1 + j by omega), show b + (n + 1 + j - 8) = H.size + 1 + j by omega]
        · rw [if_neg hj, if_neg hj]
          rfl
      · have hli' : lay (i + 8) = (100, K) := by
          have := hli (i + 8 - n - 1) (by omega)
          rwa [show n + 1 + (i + 8 - n - 1) = i + 8 by omega] at this
        rw [fm_cell_int hli' (by omega) (by omega)]
        show F.heap[b + i]? = some (vp_cell _ _)
        have hr := hrow (i + 8 - n - 1) (by omega)
        rw [hTh, show H.size + 1 + (i + 8 - n - 1) = b + i by omega] at hr
        rw [hr, vp_cell_i]
        have g1 : n ≤ i + 8 ∧ i + 8 ≤ n + N := by omega
        simp only [fm_mm]
        rw [if_pos g1]
        exact congrArg some (arrV_new (dA 100) K (.int 0))
  have hg := kk ls F.heap locs h1 hP1 ⟨by have := h3.1; omega, fun q g1 g2 => ((hold q (by have := h3.1; omega)).trans (by rw [hTh])).trans (h3.2.1 q g1 g2), h3.2.2⟩
  have ead : fm_ad b x n = b + (n - 8) := fm_ad_in h8
  simp only [List.map_cons, fm_v, ead] at hg
  obtain ⟨t, a1, b1⟩ := hg F rfl X'
  refine ⟨t, step t ?_, b1⟩
  have eT : T0.heap.size = b + (n - 8) := by rw [hT]; exact hsz
  rw [eT]
  exact a1
end FMX
theorem df_all : ∀ q ∈ ([(0, 8, t_An), (1, 2, t_Sc), (2, 2, t_Sy), (3, 5, t_Nu), (4, 3, t_Wi), (5, 13, t_Tr), (6, 6, t_Me), (7, 5, t_Fr), (8, 6, t_Si), (9, 8, t_Ms), (10, 6, t_Pr), (11, 51, t_Mo)] : List (Nat × Nat × (Nat → FieldType))), ∀ j, j < q.2.1 → (fm_fk q.1 j = 0 ∧ defaultValue (q.2.2 j) = .int 0) ∨ (fm_fk q.1 j = 1 ∧ defaultValue (q.2.2 j) = .long 0) ∨ (fm_fk q.1 j = 2 ∧ defaultValue (q.2.2 j) = .null) := by decide +kernel
theorem df_An : ∀ j, j < 8 → (fm_fk 0 j = 0 ∧ defaultValue (t_An j) = .int 0) ∨ (fm_fk 0 j = 1 ∧ defaultValue (t_An j) = .long 0) ∨ (fm_fk 0 j = 2 ∧ defaultValue (t_An j) = .null) := df_all (0, 8, t_An) (List.mem_of_getElem? (i := 0) rfl)
theorem df_Sc : ∀ j, j < 2 → (fm_fk 1 j = 0 ∧ defaultValue (t_Sc j) = .int 0) ∨ (fm_fk 1 j = 1 ∧ defaultValue (t_Sc j) = .long 0) ∨ (fm_fk 1 j = 2 ∧ defaultValue (t_Sc j) = .null) := df_all (1, 2, t_Sc) (List.mem_of_getElem? (i := 1) rfl)
theorem df_Sy : ∀ j, j < 2 → (fm_fk 2 j = 0 ∧ defaultValue (t_Sy j) = .int 0) ∨ (fm_fk 2 j = 1 ∧ defaultValue (t_Sy j) = .long 0) ∨ (fm_fk 2 j = 2 ∧ defaultValue (t_Sy j) = .null) := df_all (2, 2, t_Sy) (List.mem_of_getElem? (i := 2) rfl)
theorem df_Nu : ∀ j, j < 5 → (fm_fk 3 j = 0 ∧ defaultValue (t_Nu j) = .int 0) ∨ (fm_fk 3 j = 1 ∧ defaultValue (t_Nu j) = .long 0) ∨ (fm_fk 3 j = 2 ∧ defaultValue (t_Nu j) = .null) := df_all (3, 5, t_Nu) (List.mem_of_getElem? (i := 3) rfl)
theorem df_Wi : ∀ j, j < 3 → (fm_fk 4 j = 0 ∧ defaultValue (t_Wi j) = .int 0) ∨ (fm_fk 4 j = 1 ∧ defaultValue (t_Wi j) = .long 0) ∨ (fm_fk 4 j = 2 ∧ defaultValue (t_Wi j) = .null) := df_all (4, 3, t_Wi) (List.mem_of_getElem? (i := 4) rfl)
theorem df_Tr : ∀ j, j < 13 → (fm_fk 5 j = 0 ∧ defaultValue (t_Tr j) = .int 0) ∨ (fm_fk 5 j = 1 ∧ defaultValue (t_Tr j) = .long 0) ∨ (fm_fk 5 j = 2 ∧ defaultValue (t_Tr j) = .null) := df_all (5, 13, t_Tr) (List.mem_of_getElem? (i := 5) rfl)
theorem df_Me : ∀ j, j < 6 → (fm_fk 6 j = 0 ∧ defaultValue (t_Me j) = .int 0) ∨ (fm_fk 6 j = 1 ∧ defaultValue (t_Me j) = .long 0) ∨ (fm_fk 6 j = 2 ∧ defaultValue (t_Me j) = .null) := df_all (6, 6, t_Me) (List.mem_of_getElem? (i := 6) rfl)
theorem df_Fr : ∀ j, j < 5 → (fm_fk 7 j = 0 ∧ defaultValue (t_Fr j) = .int 0) ∨ (fm_fk 7 j = 1 ∧ defaultValue (t_Fr j) = .long 0) ∨ (fm_fk 7 j = 2 ∧ defaultValue (t_Fr j) = .null) := df_all (7, 5, t_Fr) (List.mem_of_getElem? (i := 7) rfl)
theorem df_Si : ∀ j, j < 6 → (fm_fk 8 j = 0 ∧ defaultValue (t_Si j) = .int 0) ∨ (fm_fk 8 j = 1 ∧ defaultValue (t_Si j) = .long 0) ∨ (fm_fk 8 j = 2 ∧ defaultValue (t_Si j) = .null) := df_all (8, 6, t_Si) (List.mem_of_getElem? (i := 8) rfl)
theorem df_Ms : ∀ j, j < 8 → (fm_fk 9 j = 0 ∧ defaultValue (t_Ms j) = .int 0) ∨ (fm_fk 9 j = 1 ∧ defaultValue (t_Ms j) = .long 0) ∨ (fm_fk 9 j = 2 ∧ defaultValue (t_Ms j) = .null) := df_all (9, 8, t_Ms) (List.mem_of_getElem? (i := 9) rfl)
theorem df_Pr : ∀ j, j < 6 → (fm_fk 10 j = 0 ∧ defaultValue (t_Pr j) = .int 0) ∨ (fm_fk 10 j = 1 ∧ defaultValue (t_Pr j) = .long 0) ∨ (fm_fk 10 j = 2 ∧ defaultValue (t_Pr j) = .null) := df_all (10, 6, t_Pr) (List.mem_of_getElem? (i := 10) rfl)
theorem df_Mo : ∀ j, j < 51 → (fm_fk 11 j = 0 ∧ defaultValue (t_Mo j) = .int 0) ∨ (fm_fk 11 j = 1 ∧ defaultValue (t_Mo j) = .long 0) ∨ (fm_fk 11 j = 2 ∧ defaultValue (t_Mo j) = .null) := df_all (11, 51, t_Mo) (List.mem_of_getElem? (i := 11) rfl)
theorem pd_An_init : y_An_init.cls ≠ "java/lang/invoke/MethodHandle" ∧ y_An_init.cls ≠ "java/lang/invoke/VarHandle" ∧ (parseMethodDescriptor y_An_init.desc).map (fun d => d.parameters.length) = some 0 := ⟨by decide, by decide, by decide +kernel⟩
theorem pd_An_program : y_An_program.cls ≠ "java/lang/invoke/MethodHandle" ∧ y_An_program.cls ≠ "java/lang/invoke/VarHandle" ∧ (parseMethodDescriptor y_An_program.desc).map (fun d => d.parameters.length) = some 3 := ⟨by decide, by decide, by decide +kernel⟩
theorem pd_An_table : y_An_table.cls ≠ "java/lang/invoke/MethodHandle" ∧ y_An_table.cls ≠ "java/lang/invoke/VarHandle" ∧ (parseMethodDescriptor y_An_table.desc).map (fun d => d.parameters.length) = some 3 := ⟨by decide, by decide, by decide +kernel⟩
theorem pd_An_launch : y_An_launch.cls ≠ "java/lang/invoke/MethodHandle" ∧ y_An_launch.cls ≠ "java/lang/invoke/VarHandle" ∧ (parseMethodDescriptor y_An_launch.desc).map (fun d => d.parameters.length) = some 3 := ⟨by decide, by decide, by decide +kernel⟩
theorem pd_An_step : y_An_step.cls ≠ "java/lang/invoke/MethodHandle" ∧ y_An_step.cls ≠ "java/lang/invoke/VarHandle" ∧ (parseMethodDescriptor y_An_step.desc).map (fun d => d.parameters.length) = some 2 := ⟨by decide, by decide, by decide +kernel⟩
theorem pd_An_tick : y_An_tick.cls ≠ "java/lang/invoke/MethodHandle" ∧ y_An_tick.cls ≠ "java/lang/invoke/VarHandle" ∧ (parseMethodDescriptor y_An_tick.desc).map (fun d => d.parameters.length) = some 1 := ⟨by decide, by decide, by decide +kernel⟩
theorem pd_An_checkpoint : y_An_checkpoint.cls ≠ "java/lang/invoke/MethodHandle" ∧ y_An_checkpoint.cls ≠ "java/lang/invoke/VarHandle" ∧ (parseMethodDescriptor y_An_checkpoint.desc).map (fun d => d.parameters.length) = some 1 := ⟨by decide, by decide, by decide +kernel⟩
theorem pd_An_write : y_An_write.cls ≠ "java/lang/invoke/MethodHandle" ∧ y_An_write.cls ≠ "java/lang/invoke/VarHandle" ∧ (parseMethodDescriptor y_An_write.desc).map (fun d => d.parameters.length) = some 2 := ⟨by decide, by decide, by decide +kernel⟩
theorem pd_An_crash : y_An_crash.cls ≠ "java/lang/invoke/MethodHandle" ∧ y_An_crash.cls ≠ "java/lang/invoke/VarHandle" ∧ (parseMethodDescriptor y_An_crash.desc).map (fun d => d.parameters.length) = some 1 := ⟨by decide, by decide, by decide +kernel⟩
theorem pd_An_start : y_An_start.cls ≠ "java/lang/invoke/MethodHandle" ∧ y_An_start.cls ≠ "java/lang/invoke/VarHandle" ∧ (parseMethodDescriptor y_An_start.desc).map (fun d => d.parameters.length) = some 1 := ⟨by decide, by decide, by decide +kernel⟩
theorem pd_An_net : y_An_net.cls ≠ "java/lang/invoke/MethodHandle" ∧ y_An_net.cls ≠ "java/lang/invoke/VarHandle" ∧ (parseMethodDescriptor y_An_net.desc).map (fun d => d.parameters.length) = some 2 := ⟨by decide, by decide, by decide +kernel⟩
theorem pd_An_message : y_An_message.cls ≠ "java/lang/invoke/MethodHandle" ∧ y_An_message.cls ≠ "java/lang/invoke/VarHandle" ∧ (parseMethodDescriptor y_An_message.desc).map (fun d => d.parameters.length) = some 2 := ⟨by decide, by decide, by decide +kernel⟩
theorem pd_An_slot : y_An_slot.cls ≠ "java/lang/invoke/MethodHandle" ∧ y_An_slot.cls ≠ "java/lang/invoke/VarHandle" ∧ (parseMethodDescriptor y_An_slot.desc).map (fun d => d.parameters.length) = some 2 := ⟨by decide, by decide, by decide +kernel⟩
theorem pd_An_agent : y_An_agent.cls ≠ "java/lang/invoke/MethodHandle" ∧ y_An_agent.cls ≠ "java/lang/invoke/VarHandle" ∧ (parseMethodDescriptor y_An_agent.desc).map (fun d => d.parameters.length) = some 3 := ⟨by decide, by decide, by decide +kernel⟩
theorem pd_An_host : y_An_host.cls ≠ "java/lang/invoke/MethodHandle" ∧ y_An_host.cls ≠ "java/lang/invoke/VarHandle" ∧ (parseMethodDescriptor y_An_host.desc).map (fun d => d.parameters.length) = some 2 := ⟨by decide, by decide, by decide +kernel⟩
theorem pd_An_sealed : y_An_sealed.cls ≠ "java/lang/invoke/MethodHandle" ∧ y_An_sealed.cls ≠ "java/lang/invoke/VarHandle" ∧ (parseMethodDescriptor y_An_sealed.desc).map (fun d => d.parameters.length) = some 1 := ⟨by decide, by decide, by decide +kernel⟩
theorem pd_An_outputs : y_An_outputs.cls ≠ "java/lang/invoke/MethodHandle" ∧ y_An_outputs.cls ≠ "java/lang/invoke/VarHandle" ∧ (parseMethodDescriptor y_An_outputs.desc).map (fun d => d.parameters.length) = some 1 := ⟨by decide, by decide, by decide +kernel⟩
theorem pd_An_output : y_An_output.cls ≠ "java/lang/invoke/MethodHandle" ∧ y_An_output.cls ≠ "java/lang/invoke/VarHandle" ∧ (parseMethodDescriptor y_An_output.desc).map (fun d => d.parameters.length) = some 2 := ⟨by decide, by decide, by decide +kernel⟩
theorem pd_An_expected : y_An_expected.cls ≠ "java/lang/invoke/MethodHandle" ∧ y_An_expected.cls ≠ "java/lang/invoke/VarHandle" ∧ (parseMethodDescriptor y_An_expected.desc).map (fun d => d.parameters.length) = some 1 := ⟨by decide, by decide, by decide +kernel⟩
theorem pd_An_expectedOutput : y_An_expectedOutput.cls ≠ "java/lang/invoke/MethodHandle" ∧ y_An_expectedOutput.cls ≠ "java/lang/invoke/VarHandle" ∧ (parseMethodDescriptor y_An_expectedOutput.desc).map (fun d => d.parameters.length) = some 2 := ⟨by decide, by decide, by decide +kernel⟩
theorem pd_An_round : y_An_round.cls ≠ "java/lang/invoke/MethodHandle" ∧ y_An_round.cls ≠ "java/lang/invoke/VarHandle" ∧ (parseMethodDescriptor y_An_round.desc).map (fun d => d.parameters.length) = some 1 := ⟨by decide, by decide, by decide +kernel⟩
theorem pd_An_isHost : y_An_isHost.cls ≠ "java/lang/invoke/MethodHandle" ∧ y_An_isHost.cls ≠ "java/lang/invoke/VarHandle" ∧ (parseMethodDescriptor y_An_isHost.desc).map (fun d => d.parameters.length) = some 1 := ⟨by decide, by decide, by decide +kernel⟩
theorem pd_An_isProgram : y_An_isProgram.cls ≠ "java/lang/invoke/MethodHandle" ∧ y_An_isProgram.cls ≠ "java/lang/invoke/VarHandle" ∧ (parseMethodDescriptor y_An_isProgram.desc).map (fun d => d.parameters.length) = some 1 := ⟨by decide, by decide, by decide +kernel⟩
theorem pd_An_isAgent : y_An_isAgent.cls ≠ "java/lang/invoke/MethodHandle" ∧ y_An_isAgent.cls ≠ "java/lang/invoke/VarHandle" ∧ (parseMethodDescriptor y_An_isAgent.desc).map (fun d => d.parameters.length) = some 1 := ⟨by decide, by decide, by decide +kernel⟩
theorem pd_An_isPair : y_An_isPair.cls ≠ "java/lang/invoke/MethodHandle" ∧ y_An_isPair.cls ≠ "java/lang/invoke/VarHandle" ∧ (parseMethodDescriptor y_An_isPair.desc).map (fun d => d.parameters.length) = some 1 := ⟨by decide, by decide, by decide +kernel⟩
theorem pd_Mo_init : y_Mo_init.cls ≠ "java/lang/invoke/MethodHandle" ∧ y_Mo_init.cls ≠ "java/lang/invoke/VarHandle" ∧ (parseMethodDescriptor y_Mo_init.desc).map (fun d => d.parameters.length) = some 0 := ⟨by decide, by decide, by decide +kernel⟩
theorem pd_Mo_thrown : y_Mo_thrown.cls ≠ "java/lang/invoke/MethodHandle" ∧ y_Mo_thrown.cls ≠ "java/lang/invoke/VarHandle" ∧ (parseMethodDescriptor y_Mo_thrown.desc).map (fun d => d.parameters.length) = some 0 := ⟨by decide, by decide, by decide +kernel⟩
theorem pd_Mo_refuse : y_Mo_refuse.cls ≠ "java/lang/invoke/MethodHandle" ∧ y_Mo_refuse.cls ≠ "java/lang/invoke/VarHandle" ∧ (parseMethodDescriptor y_Mo_refuse.desc).map (fun d => d.parameters.length) = some 1 := ⟨by decide, by decide, by decide +kernel⟩
theorem pd_Mo_within : y_Mo_within.cls ≠ "java/lang/invoke/MethodHandle" ∧ y_Mo_within.cls ≠ "java/lang/invoke/VarHandle" ∧ (parseMethodDescriptor y_Mo_within.desc).map (fun d => d.parameters.length) = some 3 := ⟨by decide, by decide, by decide +kernel⟩
theorem pd_Mo_forget : y_Mo_forget.cls ≠ "java/lang/invoke/MethodHandle" ∧ y_Mo_forget.cls ≠ "java/lang/invoke/VarHandle" ∧ (parseMethodDescriptor y_Mo_forget.desc).map (fun d => d.parameters.length) = some 1 := ⟨by decide, by decide, by decide +kernel⟩
theorem pd_Mo_moveAgent : y_Mo_moveAgent.cls ≠ "java/lang/invoke/MethodHandle" ∧ y_Mo_moveAgent.cls ≠ "java/lang/invoke/VarHandle" ∧ (parseMethodDescriptor y_Mo_moveAgent.desc).map (fun d => d.parameters.length) = some 2 := ⟨by decide, by decide, by decide +kernel⟩
theorem pd_Mo_moveMemory : y_Mo_moveMemory.cls ≠ "java/lang/invoke/MethodHandle" ∧ y_Mo_moveMemory.cls ≠ "java/lang/invoke/VarHandle" ∧ (parseMethodDescriptor y_Mo_moveMemory.desc).map (fun d => d.parameters.length) = some 2 := ⟨by decide, by decide, by decide +kernel⟩
theorem pd_Mo_arriveAt : y_Mo_arriveAt.cls ≠ "java/lang/invoke/MethodHandle" ∧ y_Mo_arriveAt.cls ≠ "java/lang/invoke/VarHandle" ∧ (parseMethodDescriptor y_Mo_arriveAt.desc).map (fun d => d.parameters.length) = some 3 := ⟨by decide, by decide, by decide +kernel⟩
theorem pd_Mo_pairOf : y_Mo_pairOf.cls ≠ "java/lang/invoke/MethodHandle" ∧ y_Mo_pairOf.cls ≠ "java/lang/invoke/VarHandle" ∧ (parseMethodDescriptor y_Mo_pairOf.desc).map (fun d => d.parameters.length) = some 1 := ⟨by decide, by decide, by decide +kernel⟩
theorem pd_Mo_push : y_Mo_push.cls ≠ "java/lang/invoke/MethodHandle" ∧ y_Mo_push.cls ≠ "java/lang/invoke/VarHandle" ∧ (parseMethodDescriptor y_Mo_push.desc).map (fun d => d.parameters.length) = some 2 := ⟨by decide, by decide, by decide +kernel⟩
theorem pd_Mo_pop : y_Mo_pop.cls ≠ "java/lang/invoke/MethodHandle" ∧ y_Mo_pop.cls ≠ "java/lang/invoke/VarHandle" ∧ (parseMethodDescriptor y_Mo_pop.desc).map (fun d => d.parameters.length) = some 1 := ⟨by decide, by decide, by decide +kernel⟩
theorem pd_Mo_top : y_Mo_top.cls ≠ "java/lang/invoke/MethodHandle" ∧ y_Mo_top.cls ≠ "java/lang/invoke/VarHandle" ∧ (parseMethodDescriptor y_Mo_top.desc).map (fun d => d.parameters.length) = some 2 := ⟨by decide, by decide, by decide +kernel⟩
theorem pd_Mo_meet : y_Mo_meet.cls ≠ "java/lang/invoke/MethodHandle" ∧ y_Mo_meet.cls ≠ "java/lang/invoke/VarHandle" ∧ (parseMethodDescriptor y_Mo_meet.desc).map (fun d => d.parameters.length) = some 1 := ⟨by decide, by decide, by decide +kernel⟩
theorem pd_Mo_reach : y_Mo_reach.cls ≠ "java/lang/invoke/MethodHandle" ∧ y_Mo_reach.cls ≠ "java/lang/invoke/VarHandle" ∧ (parseMethodDescriptor y_Mo_reach.desc).map (fun d => d.parameters.length) = some 1 := ⟨by decide, by decide, by decide +kernel⟩
theorem pd_Mo_renamed : y_Mo_renamed.cls ≠ "java/lang/invoke/MethodHandle" ∧ y_Mo_renamed.cls ≠ "java/lang/invoke/VarHandle" ∧ (parseMethodDescriptor y_Mo_renamed.desc).map (fun d => d.parameters.length) = some 1 := ⟨by decide, by decide, by decide +kernel⟩
theorem pd_Mo_tidy : y_Mo_tidy.cls ≠ "java/lang/invoke/MethodHandle" ∧ y_Mo_tidy.cls ≠ "java/lang/invoke/VarHandle" ∧ (parseMethodDescriptor y_Mo_tidy.desc).map (fun d => d.parameters.length) = some 1 := ⟨by decide, by decide, by decide +kernel⟩
theorem pd_Mo_program : y_Mo_program.cls ≠ "java/lang/invoke/MethodHandle" ∧ y_Mo_program.cls ≠ "java/lang/invoke/VarHandle" ∧ (parseMethodDescriptor y_Mo_program.desc).map (fun d => d.parameters.length) = some 3 := ⟨by decide, by decide, by decide +kernel⟩
theorem pd_Mo_table : y_Mo_table.cls ≠ "java/lang/invoke/MethodHandle" ∧ y_Mo_table.cls ≠ "java/lang/invoke/VarHandle" ∧ (parseMethodDescriptor y_Mo_table.desc).map (fun d => d.parameters.length) = some 3 := ⟨by decide, by decide, by decide +kernel⟩
theorem pd_Mo_fresh : y_Mo_fresh.cls ≠ "java/lang/invoke/MethodHandle" ∧ y_Mo_fresh.cls ≠ "java/lang/invoke/VarHandle" ∧ (parseMethodDescriptor y_Mo_fresh.desc).map (fun d => d.parameters.length) = some 2 := ⟨by decide, by decide, by decide +kernel⟩
theorem pd_Mo_launch : y_Mo_launch.cls ≠ "java/lang/invoke/MethodHandle" ∧ y_Mo_launch.cls ≠ "java/lang/invoke/VarHandle" ∧ (parseMethodDescriptor y_Mo_launch.desc).map (fun d => d.parameters.length) = some 3 := ⟨by decide, by decide, by decide +kernel⟩
theorem pd_Mo_isWide : y_Mo_isWide.cls ≠ "java/lang/invoke/MethodHandle" ∧ y_Mo_isWide.cls ≠ "java/lang/invoke/VarHandle" ∧ (parseMethodDescriptor y_Mo_isWide.desc).map (fun d => d.parameters.length) = some 1 := ⟨by decide, by decide, by decide +kernel⟩
theorem pd_Mo_isInt : y_Mo_isInt.cls ≠ "java/lang/invoke/MethodHandle" ∧ y_Mo_isInt.cls ≠ "java/lang/invoke/VarHandle" ∧ (parseMethodDescriptor y_Mo_isInt.desc).map (fun d => d.parameters.length) = some 2 := ⟨by decide, by decide, by decide +kernel⟩
theorem pd_Mo_isUpTo : y_Mo_isUpTo.cls ≠ "java/lang/invoke/MethodHandle" ∧ y_Mo_isUpTo.cls ≠ "java/lang/invoke/VarHandle" ∧ (parseMethodDescriptor y_Mo_isUpTo.desc).map (fun d => d.parameters.length) = some 2 := ⟨by decide, by decide, by decide +kernel⟩
theorem pd_Mo_isFit : y_Mo_isFit.cls ≠ "java/lang/invoke/MethodHandle" ∧ y_Mo_isFit.cls ≠ "java/lang/invoke/VarHandle" ∧ (parseMethodDescriptor y_Mo_isFit.desc).map (fun d => d.parameters.length) = some 3 := ⟨by decide, by decide, by decide +kernel⟩
theorem pd_Mo_bear : y_Mo_bear.cls ≠ "java/lang/invoke/MethodHandle" ∧ y_Mo_bear.cls ≠ "java/lang/invoke/VarHandle" ∧ (parseMethodDescriptor y_Mo_bear.desc).map (fun d => d.parameters.length) = some 3 := ⟨by decide, by decide, by decide +kernel⟩
theorem pd_Mo_speak : y_Mo_speak.cls ≠ "java/lang/invoke/MethodHandle" ∧ y_Mo_speak.cls ≠ "java/lang/invoke/VarHandle" ∧ (parseMethodDescriptor y_Mo_speak.desc).map (fun d => d.parameters.length) = some 3 := ⟨by decide, by decide, by decide +kernel⟩
theorem pd_Mo_travel : y_Mo_travel.cls ≠ "java/lang/invoke/MethodHandle" ∧ y_Mo_travel.cls ≠ "java/lang/invoke/VarHandle" ∧ (parseMethodDescriptor y_Mo_travel.desc).map (fun d => d.parameters.length) = some 3 := ⟨by decide, by decide, by decide +kernel⟩
theorem pd_Mo_cloning : y_Mo_cloning.cls ≠ "java/lang/invoke/MethodHandle" ∧ y_Mo_cloning.cls ≠ "java/lang/invoke/VarHandle" ∧ (parseMethodDescriptor y_Mo_cloning.desc).map (fun d => d.parameters.length) = some 3 := ⟨by decide, by decide, by decide +kernel⟩
theorem pd_Mo_newPair : y_Mo_newPair.cls ≠ "java/lang/invoke/MethodHandle" ∧ y_Mo_newPair.cls ≠ "java/lang/invoke/VarHandle" ∧ (parseMethodDescriptor y_Mo_newPair.desc).map (fun d => d.parameters.length) = some 1 := ⟨by decide, by decide, by decide +kernel⟩
theorem pd_Mo_compute : y_Mo_compute.cls ≠ "java/lang/invoke/MethodHandle" ∧ y_Mo_compute.cls ≠ "java/lang/invoke/VarHandle" ∧ (parseMethodDescriptor y_Mo_compute.desc).map (fun d => d.parameters.length) = some 2 := ⟨by decide, by decide, by decide +kernel⟩
theorem pd_Mo_compare : y_Mo_compare.cls ≠ "java/lang/invoke/MethodHandle" ∧ y_Mo_compare.cls ≠ "java/lang/invoke/VarHandle" ∧ (parseMethodDescriptor y_Mo_compare.desc).map (fun d => d.parameters.length) = some 1 := ⟨by decide, by decide, by decide +kernel⟩
theorem pd_Mo_put : y_Mo_put.cls ≠ "java/lang/invoke/MethodHandle" ∧ y_Mo_put.cls ≠ "java/lang/invoke/VarHandle" ∧ (parseMethodDescriptor y_Mo_put.desc).map (fun d => d.parameters.length) = some 2 := ⟨by decide, by decide, by decide +kernel⟩
theorem pd_Mo_perform : y_Mo_perform.cls ≠ "java/lang/invoke/MethodHandle" ∧ y_Mo_perform.cls ≠ "java/lang/invoke/VarHandle" ∧ (parseMethodDescriptor y_Mo_perform.desc).map (fun d => d.parameters.length) = some 4 := ⟨by decide, by decide, by decide +kernel⟩
theorem pd_Mo_work : y_Mo_work.cls ≠ "java/lang/invoke/MethodHandle" ∧ y_Mo_work.cls ≠ "java/lang/invoke/VarHandle" ∧ (parseMethodDescriptor y_Mo_work.desc).map (fun d => d.parameters.length) = some 2 := ⟨by decide, by decide, by decide +kernel⟩
theorem pd_Mo_wrongAt : y_Mo_wrongAt.cls ≠ "java/lang/invoke/MethodHandle" ∧ y_Mo_wrongAt.cls ≠ "java/lang/invoke/VarHandle" ∧ (parseMethodDescriptor y_Mo_wrongAt.desc).map (fun d => d.parameters.length) = some 2 := ⟨by decide, by decide, by decide +kernel⟩
theorem pd_Mo_step : y_Mo_step.cls ≠ "java/lang/invoke/MethodHandle" ∧ y_Mo_step.cls ≠ "java/lang/invoke/VarHandle" ∧ (parseMethodDescriptor y_Mo_step.desc).map (fun d => d.parameters.length) = some 2 := ⟨by decide, by decide, by decide +kernel⟩
theorem pd_Mo_post : y_Mo_post.cls ≠ "java/lang/invoke/MethodHandle" ∧ y_Mo_post.cls ≠ "java/lang/invoke/VarHandle" ∧ (parseMethodDescriptor y_Mo_post.desc).map (fun d => d.parameters.length) = some 5 := ⟨by decide, by decide, by decide +kernel⟩
theorem pd_Mo_say : y_Mo_say.cls ≠ "java/lang/invoke/MethodHandle" ∧ y_Mo_say.cls ≠ "java/lang/invoke/VarHandle" ∧ (parseMethodDescriptor y_Mo_say.desc).map (fun d => d.parameters.length) = some 1 := ⟨by decide, by decide, by decide +kernel⟩
theorem pd_Mo_sayValue : y_Mo_sayValue.cls ≠ "java/lang/invoke/MethodHandle" ∧ y_Mo_sayValue.cls ≠ "java/lang/invoke/VarHandle" ∧ (parseMethodDescriptor y_Mo_sayValue.desc).map (fun d => d.parameters.length) = some 1 := ⟨by decide, by decide, by decide +kernel⟩
theorem pd_Mo_pack : y_Mo_pack.cls ≠ "java/lang/invoke/MethodHandle" ∧ y_Mo_pack.cls ≠ "java/lang/invoke/VarHandle" ∧ (parseMethodDescriptor y_Mo_pack.desc).map (fun d => d.parameters.length) = some 2 := ⟨by decide, by decide, by decide +kernel⟩
theorem pd_Mo_tick : y_Mo_tick.cls ≠ "java/lang/invoke/MethodHandle" ∧ y_Mo_tick.cls ≠ "java/lang/invoke/VarHandle" ∧ (parseMethodDescriptor y_Mo_tick.desc).map (fun d => d.parameters.length) = some 1 := ⟨by decide, by decide, by decide +kernel⟩
theorem pd_Mo_checkpoint : y_Mo_checkpoint.cls ≠ "java/lang/invoke/MethodHandle" ∧ y_Mo_checkpoint.cls ≠ "java/lang/invoke/VarHandle" ∧ (parseMethodDescriptor y_Mo_checkpoint.desc).map (fun d => d.parameters.length) = some 1 := ⟨by decide, by decide, by decide +kernel⟩
theorem pd_Mo_seal : y_Mo_seal.cls ≠ "java/lang/invoke/MethodHandle" ∧ y_Mo_seal.cls ≠ "java/lang/invoke/VarHandle" ∧ (parseMethodDescriptor y_Mo_seal.desc).map (fun d => d.parameters.length) = some 1 := ⟨by decide, by decide, by decide +kernel⟩
theorem pd_Mo_write : y_Mo_write.cls ≠ "java/lang/invoke/MethodHandle" ∧ y_Mo_write.cls ≠ "java/lang/invoke/VarHandle" ∧ (parseMethodDescriptor y_Mo_write.desc).map (fun d => d.parameters.length) = some 2 := ⟨by decide, by decide, by decide +kernel⟩
theorem pd_Mo_crash : y_Mo_crash.cls ≠ "java/lang/invoke/MethodHandle" ∧ y_Mo_crash.cls ≠ "java/lang/invoke/VarHandle" ∧ (parseMethodDescriptor y_Mo_crash.desc).map (fun d => d.parameters.length) = some 1 := ⟨by decide, by decide, by decide +kernel⟩
theorem pd_Mo_start : y_Mo_start.cls ≠ "java/lang/invoke/MethodHandle" ∧ y_Mo_start.cls ≠ "java/lang/invoke/VarHandle" ∧ (parseMethodDescriptor y_Mo_start.desc).map (fun d => d.parameters.length) = some 1 := ⟨by decide, by decide, by decide +kernel⟩
theorem pd_Mo_copyMessage : y_Mo_copyMessage.cls ≠ "java/lang/invoke/MethodHandle" ∧ y_Mo_copyMessage.cls ≠ "java/lang/invoke/VarHandle" ∧ (parseMethodDescriptor y_Mo_copyMessage.desc).map (fun d => d.parameters.length) = some 2 := ⟨by decide, by decide, by decide +kernel⟩
theorem pd_Mo_hear : y_Mo_hear.cls ≠ "java/lang/invoke/MethodHandle" ∧ y_Mo_hear.cls ≠ "java/lang/invoke/VarHandle" ∧ (parseMethodDescriptor y_Mo_hear.desc).map (fun d => d.parameters.length) = some 0 := ⟨by decide, by decide, by decide +kernel⟩
theorem pd_Mo_hearValue : y_Mo_hearValue.cls ≠ "java/lang/invoke/MethodHandle" ∧ y_Mo_hearValue.cls ≠ "java/lang/invoke/VarHandle" ∧ (parseMethodDescriptor y_Mo_hearValue.desc).map (fun d => d.parameters.length) = some 0 := ⟨by decide, by decide, by decide +kernel⟩
theorem pd_Mo_unpack : y_Mo_unpack.cls ≠ "java/lang/invoke/MethodHandle" ∧ y_Mo_unpack.cls ≠ "java/lang/invoke/VarHandle" ∧ (parseMethodDescriptor y_Mo_unpack.desc).map (fun d => d.parameters.length) = some 2 := ⟨by decide, by decide, by decide +kernel⟩
theorem pd_Mo_deliver : y_Mo_deliver.cls ≠ "java/lang/invoke/MethodHandle" ∧ y_Mo_deliver.cls ≠ "java/lang/invoke/VarHandle" ∧ (parseMethodDescriptor y_Mo_deliver.desc).map (fun d => d.parameters.length) = some 0 := ⟨by decide, by decide, by decide +kernel⟩
theorem pd_Mo_net : y_Mo_net.cls ≠ "java/lang/invoke/MethodHandle" ∧ y_Mo_net.cls ≠ "java/lang/invoke/VarHandle" ∧ (parseMethodDescriptor y_Mo_net.desc).map (fun d => d.parameters.length) = some 2 := ⟨by decide, by decide, by decide +kernel⟩
theorem pd_Mo_message : y_Mo_message.cls ≠ "java/lang/invoke/MethodHandle" ∧ y_Mo_message.cls ≠ "java/lang/invoke/VarHandle" ∧ (parseMethodDescriptor y_Mo_message.desc).map (fun d => d.parameters.length) = some 2 := ⟨by decide, by decide, by decide +kernel⟩
theorem pd_Mo_slot : y_Mo_slot.cls ≠ "java/lang/invoke/MethodHandle" ∧ y_Mo_slot.cls ≠ "java/lang/invoke/VarHandle" ∧ (parseMethodDescriptor y_Mo_slot.desc).map (fun d => d.parameters.length) = some 2 := ⟨by decide, by decide, by decide +kernel⟩
theorem pd_Mo_agent : y_Mo_agent.cls ≠ "java/lang/invoke/MethodHandle" ∧ y_Mo_agent.cls ≠ "java/lang/invoke/VarHandle" ∧ (parseMethodDescriptor y_Mo_agent.desc).map (fun d => d.parameters.length) = some 3 := ⟨by decide, by decide, by decide +kernel⟩
theorem pd_Mo_host : y_Mo_host.cls ≠ "java/lang/invoke/MethodHandle" ∧ y_Mo_host.cls ≠ "java/lang/invoke/VarHandle" ∧ (parseMethodDescriptor y_Mo_host.desc).map (fun d => d.parameters.length) = some 2 := ⟨by decide, by decide, by decide +kernel⟩
theorem pd_Mo_sealed : y_Mo_sealed.cls ≠ "java/lang/invoke/MethodHandle" ∧ y_Mo_sealed.cls ≠ "java/lang/invoke/VarHandle" ∧ (parseMethodDescriptor y_Mo_sealed.desc).map (fun d => d.parameters.length) = some 1 := ⟨by decide, by decide, by decide +kernel⟩
theorem pd_Mo_outputs : y_Mo_outputs.cls ≠ "java/lang/invoke/MethodHandle" ∧ y_Mo_outputs.cls ≠ "java/lang/invoke/VarHandle" ∧ (parseMethodDescriptor y_Mo_outputs.desc).map (fun d => d.parameters.length) = some 1 := ⟨by decide, by decide, by decide +kernel⟩
theorem pd_Mo_output : y_Mo_output.cls ≠ "java/lang/invoke/MethodHandle" ∧ y_Mo_output.cls ≠ "java/lang/invoke/VarHandle" ∧ (parseMethodDescriptor y_Mo_output.desc).map (fun d => d.parameters.length) = some 2 := ⟨by decide, by decide, by decide +kernel⟩
theorem pd_Mo_runOn : y_Mo_runOn.cls ≠ "java/lang/invoke/MethodHandle" ∧ y_Mo_runOn.cls ≠ "java/lang/invoke/VarHandle" ∧ (parseMethodDescriptor y_Mo_runOn.desc).map (fun d => d.parameters.length) = some 1 := ⟨by decide, by decide, by decide +kernel⟩
theorem pd_Mo_runAlone : y_Mo_runAlone.cls ≠ "java/lang/invoke/MethodHandle" ∧ y_Mo_runAlone.cls ≠ "java/lang/invoke/VarHandle" ∧ (parseMethodDescriptor y_Mo_runAlone.desc).map (fun d => d.parameters.length) = some 1 := ⟨by decide, by decide, by decide +kernel⟩
theorem pd_Mo_expected : y_Mo_expected.cls ≠ "java/lang/invoke/MethodHandle" ∧ y_Mo_expected.cls ≠ "java/lang/invoke/VarHandle" ∧ (parseMethodDescriptor y_Mo_expected.desc).map (fun d => d.parameters.length) = some 1 := ⟨by decide, by decide, by decide +kernel⟩
theorem pd_Mo_expectedOutput : y_Mo_expectedOutput.cls ≠ "java/lang/invoke/MethodHandle" ∧ y_Mo_expectedOutput.cls ≠ "java/lang/invoke/VarHandle" ∧ (parseMethodDescriptor y_Mo_expectedOutput.desc).map (fun d => d.parameters.length) = some 2 := ⟨by decide, by decide, by decide +kernel⟩
theorem pd_Fr_init : y_Fr_init.cls ≠ "java/lang/invoke/MethodHandle" ∧ y_Fr_init.cls ≠ "java/lang/invoke/VarHandle" ∧ (parseMethodDescriptor y_Fr_init.desc).map (fun d => d.parameters.length) = some 0 := ⟨by decide, by decide, by decide +kernel⟩
theorem pd_Fr_follow : y_Fr_follow.cls ≠ "java/lang/invoke/MethodHandle" ∧ y_Fr_follow.cls ≠ "java/lang/invoke/VarHandle" ∧ (parseMethodDescriptor y_Fr_follow.desc).map (fun d => d.parameters.length) = some 5 := ⟨by decide, by decide, by decide +kernel⟩
theorem pd_Fr_runAlone : y_Fr_runAlone.cls ≠ "java/lang/invoke/MethodHandle" ∧ y_Fr_runAlone.cls ≠ "java/lang/invoke/VarHandle" ∧ (parseMethodDescriptor y_Fr_runAlone.desc).map (fun d => d.parameters.length) = some 5 := ⟨by decide, by decide, by decide +kernel⟩
theorem pd_Me_init : y_Me_init.cls ≠ "java/lang/invoke/MethodHandle" ∧ y_Me_init.cls ≠ "java/lang/invoke/VarHandle" ∧ (parseMethodDescriptor y_Me_init.desc).map (fun d => d.parameters.length) = some 0 := ⟨by decide, by decide, by decide +kernel⟩
theorem pd_Me_copyFrom : y_Me_copyFrom.cls ≠ "java/lang/invoke/MethodHandle" ∧ y_Me_copyFrom.cls ≠ "java/lang/invoke/VarHandle" ∧ (parseMethodDescriptor y_Me_copyFrom.desc).map (fun d => d.parameters.length) = some 1 := ⟨by decide, by decide, by decide +kernel⟩
theorem pd_Me_settle : y_Me_settle.cls ≠ "java/lang/invoke/MethodHandle" ∧ y_Me_settle.cls ≠ "java/lang/invoke/VarHandle" ∧ (parseMethodDescriptor y_Me_settle.desc).map (fun d => d.parameters.length) = some 2 := ⟨by decide, by decide, by decide +kernel⟩
theorem pd_Me_grant : y_Me_grant.cls ≠ "java/lang/invoke/MethodHandle" ∧ y_Me_grant.cls ≠ "java/lang/invoke/VarHandle" ∧ (parseMethodDescriptor y_Me_grant.desc).map (fun d => d.parameters.length) = some 3 := ⟨by decide, by decide, by decide +kernel⟩
theorem pd_Me_running : y_Me_running.cls ≠ "java/lang/invoke/MethodHandle" ∧ y_Me_running.cls ≠ "java/lang/invoke/VarHandle" ∧ (parseMethodDescriptor y_Me_running.desc).map (fun d => d.parameters.length) = some 0 := ⟨by decide, by decide, by decide +kernel⟩
theorem pd_Me_filled : y_Me_filled.cls ≠ "java/lang/invoke/MethodHandle" ∧ y_Me_filled.cls ≠ "java/lang/invoke/VarHandle" ∧ (parseMethodDescriptor y_Me_filled.desc).map (fun d => d.parameters.length) = some 0 := ⟨by decide, by decide, by decide +kernel⟩
theorem pd_Me_hopsOf : y_Me_hopsOf.cls ≠ "java/lang/invoke/MethodHandle" ∧ y_Me_hopsOf.cls ≠ "java/lang/invoke/VarHandle" ∧ (parseMethodDescriptor y_Me_hopsOf.desc).map (fun d => d.parameters.length) = some 1 := ⟨by decide, by decide, by decide +kernel⟩
theorem pd_Me_isLeaving : y_Me_isLeaving.cls ≠ "java/lang/invoke/MethodHandle" ∧ y_Me_isLeaving.cls ≠ "java/lang/invoke/VarHandle" ∧ (parseMethodDescriptor y_Me_isLeaving.desc).map (fun d => d.parameters.length) = some 2 := ⟨by decide, by decide, by decide +kernel⟩
theorem pd_Me_passTime : y_Me_passTime.cls ≠ "java/lang/invoke/MethodHandle" ∧ y_Me_passTime.cls ≠ "java/lang/invoke/VarHandle" ∧ (parseMethodDescriptor y_Me_passTime.desc).map (fun d => d.parameters.length) = some 0 := ⟨by decide, by decide, by decide +kernel⟩
theorem pd_Ms_init : y_Ms_init.cls ≠ "java/lang/invoke/MethodHandle" ∧ y_Ms_init.cls ≠ "java/lang/invoke/VarHandle" ∧ (parseMethodDescriptor y_Ms_init.desc).map (fun d => d.parameters.length) = some 0 := ⟨by decide, by decide, by decide +kernel⟩
theorem pd_Ms_address : y_Ms_address.cls ≠ "java/lang/invoke/MethodHandle" ∧ y_Ms_address.cls ≠ "java/lang/invoke/VarHandle" ∧ (parseMethodDescriptor y_Ms_address.desc).map (fun d => d.parameters.length) = some 4 := ⟨by decide, by decide, by decide +kernel⟩
theorem pd_Ms_copyFrom : y_Ms_copyFrom.cls ≠ "java/lang/invoke/MethodHandle" ∧ y_Ms_copyFrom.cls ≠ "java/lang/invoke/VarHandle" ∧ (parseMethodDescriptor y_Ms_copyFrom.desc).map (fun d => d.parameters.length) = some 1 := ⟨by decide, by decide, by decide +kernel⟩
theorem pd_Ms_pack : y_Ms_pack.cls ≠ "java/lang/invoke/MethodHandle" ∧ y_Ms_pack.cls ≠ "java/lang/invoke/VarHandle" ∧ (parseMethodDescriptor y_Ms_pack.desc).map (fun d => d.parameters.length) = some 1 := ⟨by decide, by decide, by decide +kernel⟩
theorem pd_Ms_unpack : y_Ms_unpack.cls ≠ "java/lang/invoke/MethodHandle" ∧ y_Ms_unpack.cls ≠ "java/lang/invoke/VarHandle" ∧ (parseMethodDescriptor y_Ms_unpack.desc).map (fun d => d.parameters.length) = some 1 := ⟨by decide, by decide, by decide +kernel⟩
theorem pd_Ms_putValue : y_Ms_putValue.cls ≠ "java/lang/invoke/MethodHandle" ∧ y_Ms_putValue.cls ≠ "java/lang/invoke/VarHandle" ∧ (parseMethodDescriptor y_Ms_putValue.desc).map (fun d => d.parameters.length) = some 1 := ⟨by decide, by decide, by decide +kernel⟩
theorem pd_Ms_takeValue : y_Ms_takeValue.cls ≠ "java/lang/invoke/MethodHandle" ∧ y_Ms_takeValue.cls ≠ "java/lang/invoke/VarHandle" ∧ (parseMethodDescriptor y_Ms_takeValue.desc).map (fun d => d.parameters.length) = some 0 := ⟨by decide, by decide, by decide +kernel⟩
theorem pd_Ms_put : y_Ms_put.cls ≠ "java/lang/invoke/MethodHandle" ∧ y_Ms_put.cls ≠ "java/lang/invoke/VarHandle" ∧ (parseMethodDescriptor y_Ms_put.desc).map (fun d => d.parameters.length) = some 1 := ⟨by decide, by decide, by decide +kernel⟩
theorem pd_Ms_take : y_Ms_take.cls ≠ "java/lang/invoke/MethodHandle" ∧ y_Ms_take.cls ≠ "java/lang/invoke/VarHandle" ∧ (parseMethodDescriptor y_Ms_take.desc).map (fun d => d.parameters.length) = some 0 := ⟨by decide, by decide, by decide +kernel⟩
theorem pd_Ms_tell : y_Ms_tell.cls ≠ "java/lang/invoke/MethodHandle" ∧ y_Ms_tell.cls ≠ "java/lang/invoke/VarHandle" ∧ (parseMethodDescriptor y_Ms_tell.desc).map (fun d => d.parameters.length) = some 1 := ⟨by decide, by decide, by decide +kernel⟩
theorem pd_Nu_init : y_Nu_init.cls ≠ "java/lang/invoke/MethodHandle" ∧ y_Nu_init.cls ≠ "java/lang/invoke/VarHandle" ∧ (parseMethodDescriptor y_Nu_init.desc).map (fun d => d.parameters.length) = some 0 := ⟨by decide, by decide, by decide +kernel⟩
theorem pd_Nu_renumber : y_Nu_renumber.cls ≠ "java/lang/invoke/MethodHandle" ∧ y_Nu_renumber.cls ≠ "java/lang/invoke/VarHandle" ∧ (parseMethodDescriptor y_Nu_renumber.desc).map (fun d => d.parameters.length) = some 1 := ⟨by decide, by decide, by decide +kernel⟩
theorem pd_Nu_renamed : y_Nu_renamed.cls ≠ "java/lang/invoke/MethodHandle" ∧ y_Nu_renamed.cls ≠ "java/lang/invoke/VarHandle" ∧ (parseMethodDescriptor y_Nu_renamed.desc).map (fun d => d.parameters.length) = some 1 := ⟨by decide, by decide, by decide +kernel⟩
theorem pd_Pr_init : y_Pr_init.cls ≠ "java/lang/invoke/MethodHandle" ∧ y_Pr_init.cls ≠ "java/lang/invoke/VarHandle" ∧ (parseMethodDescriptor y_Pr_init.desc).map (fun d => d.parameters.length) = some 0 := ⟨by decide, by decide, by decide +kernel⟩
theorem pd_Pr_perform : y_Pr_perform.cls ≠ "java/lang/invoke/MethodHandle" ∧ y_Pr_perform.cls ≠ "java/lang/invoke/VarHandle" ∧ (parseMethodDescriptor y_Pr_perform.desc).map (fun d => d.parameters.length) = some 4 := ⟨by decide, by decide, by decide +kernel⟩
theorem pd_Pr_read : y_Pr_read.cls ≠ "java/lang/invoke/MethodHandle" ∧ y_Pr_read.cls ≠ "java/lang/invoke/VarHandle" ∧ (parseMethodDescriptor y_Pr_read.desc).map (fun d => d.parameters.length) = some 2 := ⟨by decide, by decide, by decide +kernel⟩
theorem pd_Pr_takesFit : y_Pr_takesFit.cls ≠ "java/lang/invoke/MethodHandle" ∧ y_Pr_takesFit.cls ≠ "java/lang/invoke/VarHandle" ∧ (parseMethodDescriptor y_Pr_takesFit.desc).map (fun d => d.parameters.length) = some 1 := ⟨by decide, by decide, by decide +kernel⟩
theorem pd_Pr_isOfKind : y_Pr_isOfKind.cls ≠ "java/lang/invoke/MethodHandle" ∧ y_Pr_isOfKind.cls ≠ "java/lang/invoke/VarHandle" ∧ (parseMethodDescriptor y_Pr_isOfKind.desc).map (fun d => d.parameters.length) = some 2 := ⟨by decide, by decide, by decide +kernel⟩
theorem pd_Pr_boundsFit : y_Pr_boundsFit.cls ≠ "java/lang/invoke/MethodHandle" ∧ y_Pr_boundsFit.cls ≠ "java/lang/invoke/VarHandle" ∧ (parseMethodDescriptor y_Pr_boundsFit.desc).map (fun d => d.parameters.length) = some 1 := ⟨by decide, by decide, by decide +kernel⟩
theorem pd_Pr_doPlain : y_Pr_doPlain.cls ≠ "java/lang/invoke/MethodHandle" ∧ y_Pr_doPlain.cls ≠ "java/lang/invoke/VarHandle" ∧ (parseMethodDescriptor y_Pr_doPlain.desc).map (fun d => d.parameters.length) = some 3 := ⟨by decide, by decide, by decide +kernel⟩
theorem pd_Pr_doPairs : y_Pr_doPairs.cls ≠ "java/lang/invoke/MethodHandle" ∧ y_Pr_doPairs.cls ≠ "java/lang/invoke/VarHandle" ∧ (parseMethodDescriptor y_Pr_doPairs.desc).map (fun d => d.parameters.length) = some 1 := ⟨by decide, by decide, by decide +kernel⟩
theorem pd_Pr_say : y_Pr_say.cls ≠ "java/lang/invoke/MethodHandle" ∧ y_Pr_say.cls ≠ "java/lang/invoke/VarHandle" ∧ (parseMethodDescriptor y_Pr_say.desc).map (fun d => d.parameters.length) = some 1 := ⟨by decide, by decide, by decide +kernel⟩
theorem pd_Pr_go : y_Pr_go.cls ≠ "java/lang/invoke/MethodHandle" ∧ y_Pr_go.cls ≠ "java/lang/invoke/VarHandle" ∧ (parseMethodDescriptor y_Pr_go.desc).map (fun d => d.parameters.length) = some 2 := ⟨by decide, by decide, by decide +kernel⟩
theorem pd_Pr_divide : y_Pr_divide.cls ≠ "java/lang/invoke/MethodHandle" ∧ y_Pr_divide.cls ≠ "java/lang/invoke/VarHandle" ∧ (parseMethodDescriptor y_Pr_divide.desc).map (fun d => d.parameters.length) = some 1 := ⟨by decide, by decide, by decide +kernel⟩
theorem pd_Sy_init : y_Sy_init.cls ≠ "java/lang/invoke/MethodHandle" ∧ y_Sy_init.cls ≠ "java/lang/invoke/VarHandle" ∧ (parseMethodDescriptor y_Sy_init.desc).map (fun d => d.parameters.length) = some 0 := ⟨by decide, by decide, by decide +kernel⟩
theorem pd_Sy_put : y_Sy_put.cls ≠ "java/lang/invoke/MethodHandle" ∧ y_Sy_put.cls ≠ "java/lang/invoke/VarHandle" ∧ (parseMethodDescriptor y_Sy_put.desc).map (fun d => d.parameters.length) = some 3 := ⟨by decide, by decide, by decide +kernel⟩
theorem pd_Sy_count : y_Sy_count.cls ≠ "java/lang/invoke/MethodHandle" ∧ y_Sy_count.cls ≠ "java/lang/invoke/VarHandle" ∧ (parseMethodDescriptor y_Sy_count.desc).map (fun d => d.parameters.length) = some 1 := ⟨by decide, by decide, by decide +kernel⟩
theorem pd_Sy_valueOf : y_Sy_valueOf.cls ≠ "java/lang/invoke/MethodHandle" ∧ y_Sy_valueOf.cls ≠ "java/lang/invoke/VarHandle" ∧ (parseMethodDescriptor y_Sy_valueOf.desc).map (fun d => d.parameters.length) = some 2 := ⟨by decide, by decide, by decide +kernel⟩
theorem pd_Sy_copyFrom : y_Sy_copyFrom.cls ≠ "java/lang/invoke/MethodHandle" ∧ y_Sy_copyFrom.cls ≠ "java/lang/invoke/VarHandle" ∧ (parseMethodDescriptor y_Sy_copyFrom.desc).map (fun d => d.parameters.length) = some 1 := ⟨by decide, by decide, by decide +kernel⟩
theorem pd_Sy_addMissing : y_Sy_addMissing.cls ≠ "java/lang/invoke/MethodHandle" ∧ y_Sy_addMissing.cls ≠ "java/lang/invoke/VarHandle" ∧ (parseMethodDescriptor y_Sy_addMissing.desc).map (fun d => d.parameters.length) = some 1 := ⟨by decide, by decide, by decide +kernel⟩
theorem pd_Sc_init : y_Sc_init.cls ≠ "java/lang/invoke/MethodHandle" ∧ y_Sc_init.cls ≠ "java/lang/invoke/VarHandle" ∧ (parseMethodDescriptor y_Sc_init.desc).map (fun d => d.parameters.length) = some 0 := ⟨by decide, by decide, by decide +kernel⟩
theorem pd_Sc_append : y_Sc_append.cls ≠ "java/lang/invoke/MethodHandle" ∧ y_Sc_append.cls ≠ "java/lang/invoke/VarHandle" ∧ (parseMethodDescriptor y_Sc_append.desc).map (fun d => d.parameters.length) = some 2 := ⟨by decide, by decide, by decide +kernel⟩
theorem pd_Sc_at : y_Sc_at.cls ≠ "java/lang/invoke/MethodHandle" ∧ y_Sc_at.cls ≠ "java/lang/invoke/VarHandle" ∧ (parseMethodDescriptor y_Sc_at.desc).map (fun d => d.parameters.length) = some 1 := ⟨by decide, by decide, by decide +kernel⟩
theorem pd_Si_init : y_Si_init.cls ≠ "java/lang/invoke/MethodHandle" ∧ y_Si_init.cls ≠ "java/lang/invoke/VarHandle" ∧ (parseMethodDescriptor y_Si_init.desc).map (fun d => d.parameters.length) = some 1 := ⟨by decide, by decide, by decide +kernel⟩
theorem pd_Si_beginCopy : y_Si_beginCopy.cls ≠ "java/lang/invoke/MethodHandle" ∧ y_Si_beginCopy.cls ≠ "java/lang/invoke/VarHandle" ∧ (parseMethodDescriptor y_Si_beginCopy.desc).map (fun d => d.parameters.length) = some 0 := ⟨by decide, by decide, by decide +kernel⟩
theorem pd_Si_seal : y_Si_seal.cls ≠ "java/lang/invoke/MethodHandle" ∧ y_Si_seal.cls ≠ "java/lang/invoke/VarHandle" ∧ (parseMethodDescriptor y_Si_seal.desc).map (fun d => d.parameters.length) = some 2 := ⟨by decide, by decide, by decide +kernel⟩
theorem pd_Si_goDown : y_Si_goDown.cls ≠ "java/lang/invoke/MethodHandle" ∧ y_Si_goDown.cls ≠ "java/lang/invoke/VarHandle" ∧ (parseMethodDescriptor y_Si_goDown.desc).map (fun d => d.parameters.length) = some 0 := ⟨by decide, by decide, by decide +kernel⟩
theorem pd_Si_comeUp : y_Si_comeUp.cls ≠ "java/lang/invoke/MethodHandle" ∧ y_Si_comeUp.cls ≠ "java/lang/invoke/VarHandle" ∧ (parseMethodDescriptor y_Si_comeUp.desc).map (fun d => d.parameters.length) = some 0 := ⟨by decide, by decide, by decide +kernel⟩
theorem pd_Si_sendArrivals : y_Si_sendArrivals.cls ≠ "java/lang/invoke/MethodHandle" ∧ y_Si_sendArrivals.cls ≠ "java/lang/invoke/VarHandle" ∧ (parseMethodDescriptor y_Si_sendArrivals.desc).map (fun d => d.parameters.length) = some 1 := ⟨by decide, by decide, by decide +kernel⟩
theorem pd_Si_receive : y_Si_receive.cls ≠ "java/lang/invoke/MethodHandle" ∧ y_Si_receive.cls ≠ "java/lang/invoke/VarHandle" ∧ (parseMethodDescriptor y_Si_receive.desc).map (fun d => d.parameters.length) = some 2 := ⟨by decide, by decide, by decide +kernel⟩
theorem pd_Si_tell : y_Si_tell.cls ≠ "java/lang/invoke/MethodHandle" ∧ y_Si_tell.cls ≠ "java/lang/invoke/VarHandle" ∧ (parseMethodDescriptor y_Si_tell.desc).map (fun d => d.parameters.length) = some 1 := ⟨by decide, by decide, by decide +kernel⟩
theorem pd_Tr_init : y_Tr_init.cls ≠ "java/lang/invoke/MethodHandle" ∧ y_Tr_init.cls ≠ "java/lang/invoke/VarHandle" ∧ (parseMethodDescriptor y_Tr_init.desc).map (fun d => d.parameters.length) = some 0 := ⟨by decide, by decide, by decide +kernel⟩
theorem pd_Tr_begin : y_Tr_begin.cls ≠ "java/lang/invoke/MethodHandle" ∧ y_Tr_begin.cls ≠ "java/lang/invoke/VarHandle" ∧ (parseMethodDescriptor y_Tr_begin.desc).map (fun d => d.parameters.length) = some 3 := ⟨by decide, by decide, by decide +kernel⟩
theorem pd_Tr_copyFrom : y_Tr_copyFrom.cls ≠ "java/lang/invoke/MethodHandle" ∧ y_Tr_copyFrom.cls ≠ "java/lang/invoke/VarHandle" ∧ (parseMethodDescriptor y_Tr_copyFrom.desc).map (fun d => d.parameters.length) = some 1 := ⟨by decide, by decide, by decide +kernel⟩
theorem pd_Tr_becomeChildOf : y_Tr_becomeChildOf.cls ≠ "java/lang/invoke/MethodHandle" ∧ y_Tr_becomeChildOf.cls ≠ "java/lang/invoke/VarHandle" ∧ (parseMethodDescriptor y_Tr_becomeChildOf.desc).map (fun d => d.parameters.length) = some 2 := ⟨by decide, by decide, by decide +kernel⟩
theorem pd_Tr_push : y_Tr_push.cls ≠ "java/lang/invoke/MethodHandle" ∧ y_Tr_push.cls ≠ "java/lang/invoke/VarHandle" ∧ (parseMethodDescriptor y_Tr_push.desc).map (fun d => d.parameters.length) = some 1 := ⟨by decide, by decide, by decide +kernel⟩
theorem pd_Tr_pushPair : y_Tr_pushPair.cls ≠ "java/lang/invoke/MethodHandle" ∧ y_Tr_pushPair.cls ≠ "java/lang/invoke/VarHandle" ∧ (parseMethodDescriptor y_Tr_pushPair.desc).map (fun d => d.parameters.length) = some 2 := ⟨by decide, by decide, by decide +kernel⟩
theorem pd_Tr_tell : y_Tr_tell.cls ≠ "java/lang/invoke/MethodHandle" ∧ y_Tr_tell.cls ≠ "java/lang/invoke/VarHandle" ∧ (parseMethodDescriptor y_Tr_tell.desc).map (fun d => d.parameters.length) = some 1 := ⟨by decide, by decide, by decide +kernel⟩
theorem pd_Wi_init : y_Wi_init.cls ≠ "java/lang/invoke/MethodHandle" ∧ y_Wi_init.cls ≠ "java/lang/invoke/VarHandle" ∧ (parseMethodDescriptor y_Wi_init.desc).map (fun d => d.parameters.length) = some 0 := ⟨by decide, by decide, by decide +kernel⟩
theorem pd_Wi_has : y_Wi_has.cls ≠ "java/lang/invoke/MethodHandle" ∧ y_Wi_has.cls ≠ "java/lang/invoke/VarHandle" ∧ (parseMethodDescriptor y_Wi_has.desc).map (fun d => d.parameters.length) = some 1 := ⟨by decide, by decide, by decide +kernel⟩
theorem pd_Wi_isFull : y_Wi_isFull.cls ≠ "java/lang/invoke/MethodHandle" ∧ y_Wi_isFull.cls ≠ "java/lang/invoke/VarHandle" ∧ (parseMethodDescriptor y_Wi_isFull.desc).map (fun d => d.parameters.length) = some 0 := ⟨by decide, by decide, by decide +kernel⟩
theorem pd_Wi_sendArrival : y_Wi_sendArrival.cls ≠ "java/lang/invoke/MethodHandle" ∧ y_Wi_sendArrival.cls ≠ "java/lang/invoke/VarHandle" ∧ (parseMethodDescriptor y_Wi_sendArrival.desc).map (fun d => d.parameters.length) = some 3 := ⟨by decide, by decide, by decide +kernel⟩
theorem pd_Wi_sendReceipt : y_Wi_sendReceipt.cls ≠ "java/lang/invoke/MethodHandle" ∧ y_Wi_sendReceipt.cls ≠ "java/lang/invoke/VarHandle" ∧ (parseMethodDescriptor y_Wi_sendReceipt.desc).map (fun d => d.parameters.length) = some 4 := ⟨by decide, by decide, by decide +kernel⟩
theorem pd_Wi_repeat : y_Wi_repeat.cls ≠ "java/lang/invoke/MethodHandle" ∧ y_Wi_repeat.cls ≠ "java/lang/invoke/VarHandle" ∧ (parseMethodDescriptor y_Wi_repeat.desc).map (fun d => d.parameters.length) = some 1 := ⟨by decide, by decide, by decide +kernel⟩
theorem pd_Wi_remove : y_Wi_remove.cls ≠ "java/lang/invoke/MethodHandle" ∧ y_Wi_remove.cls ≠ "java/lang/invoke/VarHandle" ∧ (parseMethodDescriptor y_Wi_remove.desc).map (fun d => d.parameters.length) = some 1 := ⟨by decide, by decide, by decide +kernel⟩
theorem pd_Lw_launch : y_Lw_launch.cls ≠ "java/lang/invoke/MethodHandle" ∧ y_Lw_launch.cls ≠ "java/lang/invoke/VarHandle" ∧ (parseMethodDescriptor y_Lw_launch.desc).map (fun d => d.parameters.length) = some 5 := ⟨by decide, by decide, by decide +kernel⟩
theorem pd_Lw_step : y_Lw_step.cls ≠ "java/lang/invoke/MethodHandle" ∧ y_Lw_step.cls ≠ "java/lang/invoke/VarHandle" ∧ (parseMethodDescriptor y_Lw_step.desc).map (fun d => d.parameters.length) = some 4 := ⟨by decide, by decide, by decide +kernel⟩
theorem pd_Lw_tick : y_Lw_tick.cls ≠ "java/lang/invoke/MethodHandle" ∧ y_Lw_tick.cls ≠ "java/lang/invoke/VarHandle" ∧ (parseMethodDescriptor y_Lw_tick.desc).map (fun d => d.parameters.length) = some 3 := ⟨by decide, by decide, by decide +kernel⟩
theorem pd_Lw_checkpoint : y_Lw_checkpoint.cls ≠ "java/lang/invoke/MethodHandle" ∧ y_Lw_checkpoint.cls ≠ "java/lang/invoke/VarHandle" ∧ (parseMethodDescriptor y_Lw_checkpoint.desc).map (fun d => d.parameters.length) = some 3 := ⟨by decide, by decide, by decide +kernel⟩
theorem pd_Lw_write : y_Lw_write.cls ≠ "java/lang/invoke/MethodHandle" ∧ y_Lw_write.cls ≠ "java/lang/invoke/VarHandle" ∧ (parseMethodDescriptor y_Lw_write.desc).map (fun d => d.parameters.length) = some 4 := ⟨by decide, by decide, by decide +kernel⟩
theorem pd_Lw_crash : y_Lw_crash.cls ≠ "java/lang/invoke/MethodHandle" ∧ y_Lw_crash.cls ≠ "java/lang/invoke/VarHandle" ∧ (parseMethodDescriptor y_Lw_crash.desc).map (fun d => d.parameters.length) = some 3 := ⟨by decide, by decide, by decide +kernel⟩
theorem pd_Lw_start : y_Lw_start.cls ≠ "java/lang/invoke/MethodHandle" ∧ y_Lw_start.cls ≠ "java/lang/invoke/VarHandle" ∧ (parseMethodDescriptor y_Lw_start.desc).map (fun d => d.parameters.length) = some 3 := ⟨by decide, by decide, by decide +kernel⟩
theorem pd_Lw_net : y_Lw_net.cls ≠ "java/lang/invoke/MethodHandle" ∧ y_Lw_net.cls ≠ "java/lang/invoke/VarHandle" ∧ (parseMethodDescriptor y_Lw_net.desc).map (fun d => d.parameters.length) = some 4 := ⟨by decide, by decide, by decide +kernel⟩
theorem nx_0 {b : Nat} {x : Nat → Nat} {U : State} (h : fm_EX b x U) : va_Nw (.methodLinkNest "AgentNet$Wire" 21 y_Ms_init "AgentNet") U := h.1 ("AgentNet$Wire", 21, y_Ms_init, "AgentNet") (List.mem_of_getElem? (i := 0) rfl)
theorem nx_1 {b : Nat} {x : Nat → Nat} {U : State} (h : fm_EX b x U) : va_Nw (.methodLinkNest "AgentNet" 35 y_Pr_init "AgentNet") U := h.1 ("AgentNet", 35, y_Pr_init, "AgentNet") (List.mem_of_getElem? (i := 1) rfl)
theorem nx_2 {b : Nat} {x : Nat → Nat} {U : State} (h : fm_EX b x U) : va_Nw (.methodLinkNest "AgentNet$Processor" 11 y_Nu_init "AgentNet") U := h.1 ("AgentNet$Processor", 11, y_Nu_init, "AgentNet") (List.mem_of_getElem? (i := 2) rfl)
theorem nx_3 {b : Nat} {x : Nat → Nat} {U : State} (h : fm_EX b x U) : va_Nw (.methodLinkNest "AgentNet" 42 y_Sy_init "AgentNet") U := h.1 ("AgentNet", 42, y_Sy_init, "AgentNet") (List.mem_of_getElem? (i := 3) rfl)
theorem nx_4 {b : Nat} {x : Nat → Nat} {U : State} (h : fm_EX b x U) : va_Nw (.methodLinkNest "AgentNet" 49 y_Fr_init "AgentNet") U := h.1 ("AgentNet", 49, y_Fr_init, "AgentNet") (List.mem_of_getElem? (i := 4) rfl)
theorem nx_5 {b : Nat} {x : Nat → Nat} {U : State} (h : fm_EX b x U) : va_Nw (.methodLinkNest "AgentNet$FreeRun" 11 y_Sy_init "AgentNet") U := h.1 ("AgentNet$FreeRun", 11, y_Sy_init, "AgentNet") (List.mem_of_getElem? (i := 5) rfl)
theorem nx_6 {b : Nat} {x : Nat → Nat} {U : State} (h : fm_EX b x U) : va_Nw (.methodLinkNest "AgentNet$FreeRun" 24 y_Tr_init "AgentNet") U := h.1 ("AgentNet$FreeRun", 24, y_Tr_init, "AgentNet") (List.mem_of_getElem? (i := 6) rfl)
theorem nx_7 {b : Nat} {x : Nat → Nat} {U : State} (h : fm_EX b x U) : va_Nw (.methodLinkNest "AgentNet" 58 y_Sc_init "AgentNet") U := h.1 ("AgentNet", 58, y_Sc_init, "AgentNet") (List.mem_of_getElem? (i := 7) rfl)
theorem nx_8 {b : Nat} {x : Nat → Nat} {U : State} (h : fm_EX b x U) : va_Nw (.methodLinkNest "AgentNet$Memory" 32 y_Sy_init "AgentNet") U := h.1 ("AgentNet$Memory", 32, y_Sy_init, "AgentNet") (List.mem_of_getElem? (i := 8) rfl)
theorem nx_9 {b : Nat} {x : Nat → Nat} {U : State} (h : fm_EX b x U) : va_Nw (.methodLinkNest "AgentNet$Memory" 43 y_Tr_init "AgentNet") U := h.1 ("AgentNet$Memory", 43, y_Tr_init, "AgentNet") (List.mem_of_getElem? (i := 9) rfl)
theorem nx_10 {b : Nat} {x : Nat → Nat} {U : State} (h : fm_EX b x U) : va_Nw (.methodLinkNest "AgentNet$Traveller" 69 y_An_isPair "AgentNet") U := h.1 ("AgentNet$Traveller", 69, y_An_isPair, "AgentNet") (List.mem_of_getElem? (i := 10) rfl)
theorem nx_11 {b : Nat} {x : Nat → Nat} {U : State} (h : fm_EX b x U) : va_Nw (.methodLinkNest "AgentNet$Sayings" 18 y_An_isAgent "AgentNet") U := h.1 ("AgentNet$Sayings", 18, y_An_isAgent, "AgentNet") (List.mem_of_getElem? (i := 11) rfl)
theorem nx_12 {b : Nat} {x : Nat → Nat} {U : State} (h : fm_EX b x U) : va_Nw (.methodLinkNest "AgentNet$Processor" 99 y_An_isPair "AgentNet") U := h.1 ("AgentNet$Processor", 99, y_An_isPair, "AgentNet") (List.mem_of_getElem? (i := 12) rfl)
theorem nx_13 {b : Nat} {x : Nat → Nat} {U : State} (h : fm_EX b x U) : va_Nw (.methodLinkNest "AgentNet$Numbering" 58 y_An_isPair "AgentNet") U := h.1 ("AgentNet$Numbering", 58, y_An_isPair, "AgentNet") (List.mem_of_getElem? (i := 13) rfl)
theorem nx_14 {b : Nat} {x : Nat → Nat} {U : State} (h : fm_EX b x U) : va_Nw (.methodLinkNest "AgentNet$Message" 108 y_An_isPair "AgentNet") U := h.1 ("AgentNet$Message", 108, y_An_isPair, "AgentNet") (List.mem_of_getElem? (i := 14) rfl)
theorem ax_0 {b : Nat} {x : Nat → Nat} {U : State} (h : fm_EX b x U) : va_AO "AgentNet$Script" U := h.2.1 "AgentNet$Script" (List.mem_of_getElem? (i := 0) rfl)
theorem ax_1 {b : Nat} {x : Nat → Nat} {U : State} (h : fm_EX b x U) : va_AO "AgentNet$Site" U := h.2.1 "AgentNet$Site" (List.mem_of_getElem? (i := 1) rfl)
theorem ax_2 {b : Nat} {x : Nat → Nat} {U : State} (h : fm_EX b x U) : va_AO "AgentNet$Message" U := h.2.1 "AgentNet$Message" (List.mem_of_getElem? (i := 2) rfl)
theorem ax_3 {b : Nat} {x : Nat → Nat} {U : State} (h : fm_EX b x U) : va_AO "AgentNet$Traveller" U := h.2.1 "AgentNet$Traveller" (List.mem_of_getElem? (i := 3) rfl)
