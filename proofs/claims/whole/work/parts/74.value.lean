/-! VALUES: an int is itself, a pair is 2^40 and its number; statics of the processor; push -/
section FMS
variable {p : Program} {l : Launch} {e : Env} {R : Room} {s : State} {m : MethodId} {args : Array Value} {below : List Frame} {meth : Method} {c : Code} {Q : State → Prop}
variable {lay : Nat → Nat × Nat} {nf : Nat → Nat} {fk : Nat → Nat → Nat} {cl : List vw_C} {b : Nat} {x : Nat → Nat} {D : va_G} {dA : Nat → ClassId} {nL : Nat} {cc : ByteArray} {own : String} {Ts : List Cond} {tys : List (ClassId × FieldType)}
variable {pc : Nat} {lv : List (Nat × Value)} {st : List Value} {n : Nat} {M : fm_M} {z : Nat × Nat}
theorem fm_gets (hc : fm_Cx p s m args meth c cl b D nL cc own Ts tys) {o idx : Nat} {C nm d : String} (hd : decode cc pc = .ok (.getstatic idx, 3)) (hw : Cond.fieldLink own idx C nm d ∈ Ts) (h8 : o < 8) (hZ : va_Z C nm d (.ref (x o)) (fm_A b) s s.heap)
    (kk : fm_G p l e R s m args below meth c Q lay nf fk cl b x D dA nL (pc + 3) lv (.ref o :: st) n M z) : fm_G p l e R s m args below meth c Q lay nf fk cl b x D dA nL pc lv st n M z := by
  intro ls H locs h1 h2 h3
  have ead : fm_ad b x o = x o := if_pos h8
  refine va_gets hc.1 hc.2.1 hZ h3 hc.2.2.2.1 (hc.2.2.2.2.1 _ hw) (fun y hy => hy) hd ?_
  have h := kk ls H locs h1 h2 h3
  simp only [List.map_cons, fm_v, ead] at h
  exact h
end FMS
theorem tb_Z0 {b : Nat} {x : Nat → Nat} {s : State} (h : fm_EX b x s) : va_Z "AgentNet$Processor" "SIZES" "[I" (.ref (x 1)) (fm_A b) s s.heap := (h.2.2.2.1 (1, "SIZES", fm_tab0) (List.mem_of_getElem? (i := 0) rfl)).1
theorem tb_T0 {b : Nat} {x : Nat → Nat} {s : State} (h : fm_EX b x s) : va_T .int (x 1) 20 (fun j => .int (fm_tab0.getD j 0)) (fm_A b) s s.heap := (h.2.2.2.1 (1, "SIZES", fm_tab0) (List.mem_of_getElem? (i := 0) rfl)).2
theorem tb_Z1 {b : Nat} {x : Nat → Nat} {s : State} (h : fm_EX b x s) : va_Z "AgentNet$Processor" "TAKES" "[I" (.ref (x 2)) (fm_A b) s s.heap := (h.2.2.2.1 (2, "TAKES", fm_tab1) (List.mem_of_getElem? (i := 1) rfl)).1
theorem tb_T1 {b : Nat} {x : Nat → Nat} {s : State} (h : fm_EX b x s) : va_T .int (x 2) 20 (fun j => .int (fm_tab1.getD j 0)) (fm_A b) s s.heap := (h.2.2.2.1 (2, "TAKES", fm_tab1) (List.mem_of_getElem? (i := 1) rfl)).2
theorem tb_Z2 {b : Nat} {x : Nat → Nat} {s : State} (h : fm_EX b x s) : va_Z "AgentNet$Processor" "GIVES" "[I" (.ref (x 3)) (fm_A b) s s.heap := (h.2.2.2.1 (3, "GIVES", fm_tab2) (List.mem_of_getElem? (i := 2) rfl)).1
theorem tb_T2 {b : Nat} {x : Nat → Nat} {s : State} (h : fm_EX b x s) : va_T .int (x 3) 20 (fun j => .int (fm_tab2.getD j 0)) (fm_A b) s s.heap := (h.2.2.2.1 (3, "GIVES", fm_tab2) (List.mem_of_getElem? (i := 2) rfl)).2
theorem tb_Z3 {b : Nat} {x : Nat → Nat} {s : State} (h : fm_EX b x s) : va_Z "AgentNet$Processor" "LOWER" "[I" (.ref (x 4)) (fm_A b) s s.heap := (h.2.2.2.1 (4, "LOWER", fm_tab3) (List.mem_of_getElem? (i := 3) rfl)).1
theorem tb_T3 {b : Nat} {x : Nat → Nat} {s : State} (h : fm_EX b x s) : va_T .int (x 4) 20 (fun j => .int (fm_tab3.getD j 0)) (fm_A b) s s.heap := (h.2.2.2.1 (4, "LOWER", fm_tab3) (List.mem_of_getElem? (i := 3) rfl)).2
theorem tb_Z4 {b : Nat} {x : Nat → Nat} {s : State} (h : fm_EX b x s) : va_Z "AgentNet$Processor" "UPPER" "[I" (.ref (x 5)) (fm_A b) s s.heap := (h.2.2.2.1 (5, "UPPER", fm_tab4) (List.mem_of_getElem? (i := 4) rfl)).1
theorem tb_T4 {b : Nat} {x : Nat → Nat} {s : State} (h : fm_EX b x s) : va_T .int (x 5) 20 (fun j => .int (fm_tab4.getD j 0)) (fm_A b) s s.heap := (h.2.2.2.1 (5, "UPPER", fm_tab4) (List.mem_of_getElem? (i := 4) rfl)).2
def e64 (v : bf_V) : Int64 := match v with
  | .inl y => y.toInt64
  | .inr k => 1099511627776 + (nI k).toInt64
theorem vx_int (y : Int32) : y.toInt64 < 1099511627776 := by
  rw [Int64.lt_iff_toInt_lt, Int32.toInt_toInt64]
  have e : (1099511627776 : Int64).toInt = 1099511627776 := by decide
  have h := Int32.toInt_lt y
  omega
theorem vx_pair : ∀ k, k < 16 → ¬ (1099511627776 + (nI k).toInt64 : Int64) < 1099511627776 := by decide +kernel
theorem vx_idx : ∀ k, k < 16 → ((1099511627776 + (nI k).toInt64 : Int64) - 1099511627776).toInt32 = nI k := by decide +kernel
theorem vx_inj : ∀ k, k < 16 → ∀ j, j < 16 → (1099511627776 + (nI k).toInt64 : Int64) = 1099511627776 + (nI j).toInt64 → k = j := by decide +kernel
theorem vx_low (y : Int32) : y.toInt64.toInt32 = y := by simp
theorem c_isPair_no {l : Launch} {b : Nat} {x : Nat → Nat} {D : va_G} {dA : Nat → ClassId} {v : Int64} {n : Nat} {M : fm_M} (h : v < 1099511627776) : Met l y_An_isPair (Cond.code y_An_isPair b_An_isPair 2 (some .boolean) :: fm_T0) ({ frames := 0, cells := 0, slots := 0, locals := 0 }) (fm_Pc fm_lay fm_nf fm_fk fm_cl b x D dA (fm_tys dA) (fm_EX b x) false [.long v] n M) (fm_Qc fm_lay fm_nf fm_fk fm_cl b x D dA (fun r n' M' => r = some (.int (nI 0)) ∧ n' = n ∧ M' = M)) 0 0 (fm_A b) := by
  have k := c_An_isPair (l := l) (b := b) (x := x) (D := D) (dA := dA) (v := v) (n := n) (M := M)
  rw [if_pos ((lg_cmp_lt _ _).mpr h)] at k
  exact k
theorem c_isPair_ok {l : Launch} {b : Nat} {x : Nat → Nat} {D : va_G} {dA : Nat → ClassId} {v : Int64} {n : Nat} {M : fm_M} (h : ¬ v < 1099511627776) : Met l y_An_isPair (Cond.code y_An_isPair b_An_isPair 2 (some .boolean) :: fm_T0) ({ frames := 0, cells := 0, slots := 0, locals := 0 }) (fm_Pc fm_lay fm_nf fm_fk fm_cl b x D dA (fm_tys dA) (fm_EX b x) false [.long v] n M) (fm_Qc fm_lay fm_nf fm_fk fm_cl b x D dA (fun r n' M' => r = some (.int (nI 1)) ∧ n' = n ∧ M' = M)) 0 0 (fm_A b) := by
  have k := c_An_isPair (l := l) (b := b) (x := x) (D := D) (dA := dA) (v := v) (n := n) (M := M)
  rw [if_neg (fun g => h ((lg_cmp_lt _ _).mp g))] at k
  exact k
theorem c_push {l : Launch} {b : Nat} {x : Nat → Nat} {D : va_G} {dA : Nat → ClassId} {o d : Nat} {v : Int64} {n : Nat} {M : fm_M} (h8 : 8 ≤ o) (ho : o < n) (h1n : o + 1 < n) (hl : (fm_lay o).1 = 5) (hl1 : fm_lay (o + 1) = (110, 6)) (ho1 : M.2.2 o 10 = some (o + 1)) (hd : M.1 o 8 = nI d) (hd6 : d < 6) : Met l y_Tr_push (Cond.code y_Tr_push b_Tr_push 3 none :: fm_T0) ({ frames := 0, cells := 0, slots := 0, locals := 0 }) (fm_Pc fm_lay fm_nf fm_fk fm_cl b x D dA (fm_tys dA) (fm_EX b x) false [.ref o, .long v] n M) (fm_Qc fm_lay fm_nf fm_fk fm_cl b x D dA (fun r n' M' => r = none ∧ n' = n ∧ M' = fm_put1 (fm_put2 M (o + 1) d v) o 8 (nI (d + 1)))) 0 0 (fm_A b) := by
  refine fm_enter (by decide) (Nat.le_of_ble_eq_true rfl) ?_
  intro p e s m args below meth c hc hr hnm hex htg
  refine fm_aload_n hc d_Tr_push_0 rfl rfl ?_
  refine fm_getI (k := 8) hc K_Tr d_Tr_push_1 q_208 rfl h8 ho hl (by decide) (by decide) rfl ?_
  refine fm_top (congrArg Value.int hd) ?_
  refine fm_bipush (v := nI 6) hc d_Tr_push_4 rfl ?_
  refine fm_icmp_ge (tgt := 29) hc d_Tr_push_6 rfl (fun g => absurd g (hnle (a := 6) (c := d) hd6 (by omega))) (fun _ => ?_)
  refine fm_aload_n hc d_Tr_push_9 rfl rfl ?_
  refine fm_getR (k := 10) (q := o + 1) hc K_Tr d_Tr_push_10 q_216 rfl h8 ho hl (by decide) (by decide) rfl ho1 ?_
  refine fm_aload_n hc d_Tr_push_13 rfl rfl ?_
  refine fm_getI (k := 8) hc K_Tr d_Tr_push_14 q_208 rfl h8 ho hl (by decide) (by decide) rfl ?_
  refine fm_top (congrArg Value.int hd) ?_
  refine fm_lload_n hc d_Tr_push_17 rfl rfl ?_
  refine fm_last (j := d) (len := 6) (v := v) hc 3 d_Tr_push_18 (by omega) h1n hl1 rfl (by omega) (by decide) ?_
  refine fm_aload_n hc d_Tr_push_19 rfl rfl ?_
  refine fm_dup hc d_Tr_push_20 rfl ?_
  refine fm_getI (k := 8) hc K_Tr d_Tr_push_21 q_208 rfl h8 ho hl (by decide) (by decide) rfl ?_
  refine fm_top (congrArg Value.int hd) ?_
  refine fm_iconst (v := nI 1) hc d_Tr_push_24 rfl ?_
  refine fm_iadd hc d_Tr_push_25 ?_
  refine fm_top (congrArg Value.int (nI_add d 1)) ?_
  refine fm_putI (k := 8) (v := nI (d + 1)) hc K_Tr d_Tr_push_26 q_208 rfl h8 ho hl (by decide) (by decide) rfl rfl rfl rfl ?_
  exact fm_vret hc hr d_Tr_push_29 (Nat.le_refl _) (Nat.le_refl _) ⟨rfl, rfl, rfl⟩
