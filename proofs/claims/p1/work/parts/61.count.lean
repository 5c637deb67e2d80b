/-! Integer.bitCount, Sayings.count -/
section FML
variable {p : Program} {l : Launch} {e : Env} {R : Room} {s : State} {m : MethodId} {args : Array Value} {below : List Frame} {meth : Method} {c : Code} {Q : State → Prop}
variable {lay : Nat → Nat × Nat} {nf : Nat → Nat} {fk : Nat → Nat → Nat} {cl : List vw_C} {b : Nat} {x : Nat → Nat} {D : va_G} {dA : Nat → ClassId} {nL : Nat} {cc : ByteArray} {own : String} {Ts : List Cond} {tys : List (ClassId × FieldType)}
variable {pc : Nat} {lv : List (Nat × Value)} {st : List Value} {n : Nat} {M : fm_M} {z : Nat × Nat}
theorem fm_ldcw (hc : fm_Cx p s m args meth c cl b D nL cc own Ts tys) {i : Nat} {v : Int32} (hd : decode cc pc = .ok (.ldc_w i, 3)) (hw : Cond.constant own i v ∈ Ts) (k : fm_G p l e R s m args below meth c Q lay nf fk cl b x D dA nL (pc + 3) lv (.int v :: st) n M z) : fm_G p l e R s m args below meth c Q lay nf fk cl b x D dA nL pc lv (st) n M z :=
  fun ls H locs h1 h2 h3 => lv_ldcw hc.1 hc.2.1 hc.2.2.2.1 (hc.2.2.2.2.1 _ hw) hd (k ls H locs h1 h2 h3)
end FML
abbrev y_Jb : MethodName := ⟨"java/lang/Integer", "bitCount", "(I)I"⟩
abbrev b_Jb : ByteArray := prog_18_method_49_code
theorem d_Jb_0 : decode b_Jb 0 = .ok (.iload_n 0, 1) := by decide +kernel
theorem d_Jb_1 : decode b_Jb 1 = .ok (.iload_n 0, 1) := by decide +kernel
theorem d_Jb_2 : decode b_Jb 2 = .ok (.iconst (1), 1) := by decide +kernel
theorem d_Jb_3 : decode b_Jb 3 = .ok (.iushr, 1) := by decide +kernel
theorem d_Jb_4 : decode b_Jb 4 = .ok (.ldc_w 265, 3) := by decide +kernel
theorem d_Jb_7 : decode b_Jb 7 = .ok (.iand, 1) := by decide +kernel
theorem d_Jb_8 : decode b_Jb 8 = .ok (.isub, 1) := by decide +kernel
theorem d_Jb_9 : decode b_Jb 9 = .ok (.istore_n 0, 1) := by decide +kernel
theorem d_Jb_10 : decode b_Jb 10 = .ok (.iload_n 0, 1) := by decide +kernel
theorem d_Jb_11 : decode b_Jb 11 = .ok (.ldc_w 266, 3) := by decide +kernel
theorem d_Jb_14 : decode b_Jb 14 = .ok (.iand, 1) := by decide +kernel
theorem d_Jb_15 : decode b_Jb 15 = .ok (.iload_n 0, 1) := by decide +kernel
theorem d_Jb_16 : decode b_Jb 16 = .ok (.iconst (2), 1) := by decide +kernel
theorem d_Jb_17 : decode b_Jb 17 = .ok (.iushr, 1) := by decide +kernel
theorem d_Jb_18 : decode b_Jb 18 = .ok (.ldc_w 266, 3) := by decide +kernel
theorem d_Jb_21 : decode b_Jb 21 = .ok (.iand, 1) := by decide +kernel
theorem d_Jb_22 : decode b_Jb 22 = .ok (.iadd, 1) := by decide +kernel
theorem d_Jb_23 : decode b_Jb 23 = .ok (.istore_n 0, 1) := by decide +kernel
theorem d_Jb_24 : decode b_Jb 24 = .ok (.iload_n 0, 1) := by decide +kernel
theorem d_Jb_25 : decode b_Jb 25 = .ok (.iload_n 0, 1) := by decide +kernel
theorem d_Jb_26 : decode b_Jb 26 = .ok (.iconst (4), 1) := by decide +kernel
theorem d_Jb_27 : decode b_Jb 27 = .ok (.iushr, 1) := by decide +kernel
theorem d_Jb_28 : decode b_Jb 28 = .ok (.iadd, 1) := by decide +kernel
theorem d_Jb_29 : decode b_Jb 29 = .ok (.ldc_w 267, 3) := by decide +kernel
theorem d_Jb_32 : decode b_Jb 32 = .ok (.iand, 1) := by decide +kernel
theorem d_Jb_33 : decode b_Jb 33 = .ok (.istore_n 0, 1) := by decide +kernel
theorem d_Jb_34 : decode b_Jb 34 = .ok (.iload_n 0, 1) := by decide +kernel
theorem d_Jb_35 : decode b_Jb 35 = .ok (.iload_n 0, 1) := by decide +kernel
theorem d_Jb_36 : decode b_Jb 36 = .ok (.bipush (8), 2) := by decide +kernel
theorem d_Jb_38 : decode b_Jb 38 = .ok (.iushr, 1) := by decide +kernel
theorem d_Jb_39 : decode b_Jb 39 = .ok (.iadd, 1) := by decide +kernel
theorem d_Jb_40 : decode b_Jb 40 = .ok (.istore_n 0, 1) := by decide +kernel
theorem d_Jb_41 : decode b_Jb 41 = .ok (.iload_n 0, 1) := by decide +kernel
theorem d_Jb_42 : decode b_Jb 42 = .ok (.iload_n 0, 1) := by decide +kernel
theorem d_Jb_43 : decode b_Jb 43 = .ok (.bipush (16), 2) := by decide +kernel
theorem d_Jb_45 : decode b_Jb 45 = .ok (.iushr, 1) := by decide +kernel
theorem d_Jb_46 : decode b_Jb 46 = .ok (.iadd, 1) := by decide +kernel
theorem d_Jb_47 : decode b_Jb 47 = .ok (.istore_n 0, 1) := by decide +kernel
theorem d_Jb_48 : decode b_Jb 48 = .ok (.iload_n 0, 1) := by decide +kernel
theorem d_Jb_49 : decode b_Jb 49 = .ok (.bipush (63), 2) := by decide +kernel
theorem d_Jb_51 : decode b_Jb 51 = .ok (.iand, 1) := by decide +kernel
theorem d_Jb_52 : decode b_Jb 52 = .ok (.ireturn, 1) := by decide +kernel
def bc1 (v : Int32) : Int32 := v - ((v.toUInt32 >>> ((nI 1).toUInt32 &&& Int32.toUInt32 31)).toInt32 &&& 1431655765)
def bc2 (v : Int32) : Int32 := (v &&& 858993459) + ((v.toUInt32 >>> ((nI 2).toUInt32 &&& Int32.toUInt32 31)).toInt32 &&& 858993459)
def bc3 (v : Int32) : Int32 := (v + (v.toUInt32 >>> ((nI 4).toUInt32 &&& Int32.toUInt32 31)).toInt32) &&& 252645135
def bc4 (v : Int32) : Int32 := v + (v.toUInt32 >>> ((nI 8).toUInt32 &&& Int32.toUInt32 31)).toInt32
def bc5 (v : Int32) : Int32 := v + (v.toUInt32 >>> ((nI 16).toUInt32 &&& Int32.toUInt32 31)).toInt32
def bitc (v : Int32) : Int32 := bc5 (bc4 (bc3 (bc2 (bc1 v)))) &&& nI 63
theorem pd_Jb : y_Jb.cls ≠ "java/lang/invoke/MethodHandle" ∧ y_Jb.cls ≠ "java/lang/invoke/VarHandle" ∧ (parseMethodDescriptor y_Jb.desc).map (fun d => d.parameters.length) = some 1 := ⟨by decide, by decide, by decide +kernel⟩
theorem c_Jb {l : Launch} {b : Nat} {x : Nat → Nat} {D : va_G} {dA : Nat → ClassId} {v : Int32} {n : Nat} {M : fm_M} : Met l y_Jb (Cond.code y_Jb b_Jb 1 (some .int) :: fm_T0) ({ frames := 0, cells := 0, slots := 0, locals := 0 }) (fm_Pc fm_lay fm_nf fm_fk fm_cl b x D dA (fm_tys dA) (fm_EX b x) false [.int v] n M) (fm_Qc fm_lay fm_nf fm_fk fm_cl b x D dA (fun r n' M' => r = some (.int (bitc v)) ∧ n' = n ∧ M' = M)) 0 0 (fm_A b) := by
  refine fm_enter (by decide) (Nat.le_of_ble_eq_true rfl) ?_
  intro p e s m args below meth c hc hr hnm hex htg
  refine fm_iload_n hc d_Jb_0 rfl rfl ?_
  refine fm_iload_n hc d_Jb_1 rfl rfl ?_
  refine fm_iconst (v := nI 1) hc d_Jb_2 rfl ?_
  refine fm_iushr hc d_Jb_3 ?_
  refine fm_ldcw hc d_Jb_4 q_459 ?_
  refine fm_iand hc d_Jb_7 ?_
  refine fm_isub hc d_Jb_8 ?_
  refine fm_top (v := .int (bc1 (v))) rfl ?_
  refine fm_istore_n (lv' := [(0, .int (bc1 (v)))]) hc d_Jb_9 rfl (by decide) rfl ?_
  refine fm_iload_n hc d_Jb_10 rfl rfl ?_
  refine fm_ldcw hc d_Jb_11 q_460 ?_
  refine fm_iand hc d_Jb_14 ?_
  refine fm_iload_n hc d_Jb_15 rfl rfl ?_
  refine fm_iconst (v := nI 2) hc d_Jb_16 rfl ?_
  refine fm_iushr hc d_Jb_17 ?_
  refine fm_ldcw hc d_Jb_18 q_460 ?_
  refine fm_iand hc d_Jb_21 ?_
  refine fm_iadd hc d_Jb_22 ?_
  refine fm_top (v := .int (bc2 (bc1 (v)))) rfl ?_
  refine fm_istore_n (lv' := [(0, .int (bc2 (bc1 (v))))]) hc d_Jb_23 rfl (by decide) rfl ?_
  refine fm_iload_n hc d_Jb_24 rfl rfl ?_
  refine fm_iload_n hc d_Jb_25 rfl rfl ?_
  refine fm_iconst (v := nI 4) hc d_Jb_26 rfl ?_
  refine fm_iushr hc d_Jb_27 ?_
  refine fm_iadd hc d_Jb_28 ?_
  refine fm_ldcw hc d_Jb_29 q_461 ?_
  refine fm_iand hc d_Jb_32 ?_
  refine fm_top (v := .int (bc3 (bc2 (bc1 (v))))) rfl ?_
  refine fm_istore_n (lv' := [(0, .int (bc3 (bc2 (bc1 (v)))))]) hc d_Jb_33 rfl (by decide) rfl ?_
  refine fm_iload_n hc d_Jb_34 rfl rfl ?_
  refine fm_iload_n hc d_Jb_35 rfl rfl ?_
  refine fm_bipush (v := nI 8) hc d_Jb_36 rfl ?_
  refine fm_iushr hc d_Jb_38 ?_
  refine fm_iadd hc d_Jb_39 ?_
  refine fm_top (v := .int (bc4 (bc3 (bc2 (bc1 (v)))))) rfl ?_
  refine fm_istore_n (lv' := [(0, .int (bc4 (bc3 (bc2 (bc1 (v))))))]) hc d_Jb_40 rfl (by decide) rfl ?_
  refine fm_iload_n hc d_Jb_41 rfl rfl ?_
  refine fm_iload_n hc d_Jb_42 rfl rfl ?_
  refine fm_bipush (v := nI 16) hc d_Jb_43 rfl ?_
  refine fm_iushr hc d_Jb_45 ?_
  refine fm_iadd hc d_Jb_46 ?_
  refine fm_top (v := .int (bc5 (bc4 (bc3 (bc2 (bc1 (v))))))) rfl ?_
  refine fm_istore_n (lv' := [(0, .int (bc5 (bc4 (bc3 (bc2 (bc1 (v)))))))]) hc d_Jb_47 rfl (by decide) rfl ?_
  refine fm_iload_n hc d_Jb_48 rfl rfl ?_
  refine fm_bipush (v := nI 63) hc d_Jb_49 rfl ?_
  refine fm_iand hc d_Jb_51 ?_
  exact fm_iret hc hr d_Jb_52 (Nat.le_refl _) (Nat.le_refl _) ⟨rfl, rfl, rfl⟩
