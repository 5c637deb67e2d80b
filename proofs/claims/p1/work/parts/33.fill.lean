abbrev y_Ja_fill : MethodName := ⟨"java/util/Arrays", "fill", "([II)V"⟩
abbrev b_Ja_fill : ByteArray := prog_23_method_103_code
theorem d_Ja_fill_0 : decode b_Ja_fill 0 = .ok (.iconst (0), 1) := by decide +kernel
theorem d_Ja_fill_1 : decode b_Ja_fill 1 = .ok (.istore_n 2, 1) := by decide +kernel
theorem d_Ja_fill_2 : decode b_Ja_fill 2 = .ok (.aload_n 0, 1) := by decide +kernel
theorem d_Ja_fill_3 : decode b_Ja_fill 3 = .ok (.arraylength, 1) := by decide +kernel
theorem d_Ja_fill_4 : decode b_Ja_fill 4 = .ok (.istore_n 3, 1) := by decide +kernel
theorem d_Ja_fill_5 : decode b_Ja_fill 5 = .ok (.iload_n 2, 1) := by decide +kernel
theorem d_Ja_fill_6 : decode b_Ja_fill 6 = .ok (.iload_n 3, 1) := by decide +kernel
theorem d_Ja_fill_7 : decode b_Ja_fill 7 = .ok (.if_icmp .ge (13), 3) := by decide +kernel
theorem d_Ja_fill_10 : decode b_Ja_fill 10 = .ok (.aload_n 0, 1) := by decide +kernel
theorem d_Ja_fill_11 : decode b_Ja_fill 11 = .ok (.iload_n 2, 1) := by decide +kernel
theorem d_Ja_fill_12 : decode b_Ja_fill 12 = .ok (.iload_n 1, 1) := by decide +kernel
theorem d_Ja_fill_13 : decode b_Ja_fill 13 = .ok (.iastore, 1) := by decide +kernel
theorem d_Ja_fill_14 : decode b_Ja_fill 14 = .ok (.iinc 2 (1), 3) := by decide +kernel
theorem d_Ja_fill_17 : decode b_Ja_fill 17 = .ok (.goto (-12), 3) := by decide +kernel
theorem d_Ja_fill_20 : decode b_Ja_fill 20 = .ok (.return_, 1) := by decide +kernel
theorem pd_Ja_fill : y_Ja_fill.cls ≠ "java/lang/invoke/MethodHandle" ∧ y_Ja_fill.cls ≠ "java/lang/invoke/VarHandle" ∧ (parseMethodDescriptor y_Ja_fill.desc).map (fun d => d.parameters.length) = some 2 := ⟨by decide, by decide, by decide +kernel⟩
def m_fill (M : fm_M) (o len : Nat) (v : Int32) : fm_M := (va_up M.1 o (fun j => if j < len then v else M.1 o j), M.2.1, M.2.2)
theorem m_fill_0 (M : fm_M) (o : Nat) (v : Int32) : m_fill M o 0 v = M := by
  have h : va_up M.1 o (fun j => if j < 0 then v else M.1 o j) = M.1 := by
    funext q
    by_cases hq : q = o
    · subst hq
      simp [va_up]
    · simp [va_up, hq]
  unfold m_fill
  rw [h]
theorem m_fill_s (M : fm_M) (o i : Nat) (v : Int32) : fm_put1 (m_fill M o i v) o i v = m_fill M o (i + 1) v := by
  have h : va_up (va_up M.1 o (fun j => if j < i then v else M.1 o j)) o (va_up (va_up M.1 o (fun j => if j < i then v else M.1 o j) o) i v) = va_up M.1 o (fun j => if j < i + 1 then v else M.1 o j) := by
    funext q
    by_cases hq : q = o
    · subst hq
      simp only [va_up, if_pos]
      funext j
      by_cases hj : j = i
      · subst hj
        simp [va_up]
      · have h2 : (j < i + 1) ↔ (j < i) := by omega
        simp [va_up, hj, h2]
    · simp [va_up, hq]
  unfold fm_put1 m_fill
  exact congrArg (fun r => (r, M.2.1, M.2.2)) h
set_option maxRecDepth 100000 in
set_option maxHeartbeats 4000000 in
theorem c_Ja_fill {l : Launch} {b : Nat} {x : Nat → Nat} {D : va_G} {dA : Nat → ClassId} {o len n : Nat} {M : fm_M} {v : Int32} (h8 : 8 ≤ o) (hn : o < n) (hl : fm_lay o = (100, len)) (hlen : len < 100000) : Met l y_Ja_fill (Cond.code y_Ja_fill b_Ja_fill 4 none :: fm_T0) ({ frames := 0, cells := 0, slots := 0, locals := 0 }) (fm_Pc fm_lay fm_nf fm_fk fm_cl b x D dA (fm_tys dA) (fm_EX b x) false [.ref o, .int v] n M) (fm_Qc fm_lay fm_nf fm_fk fm_cl b x D dA (fun r n' M' => r = none ∧ n' = n ∧ M' = m_fill M o len v)) 0 0 (fm_A b) := by
  refine fm_enter (by decide) (Nat.le_of_ble_eq_true rfl) ?_
  intro p e s m args below meth c hc hr hnm hex htg
  have loop : ∀ k i, i + k = len → fm_G p l e (headSpec (Cond.code y_Ja_fill b_Ja_fill 4 none :: fm_T0) ({ frames := 0, cells := 0, slots := 0, locals := 0 })).room s m args below meth c (MQ below (fm_Qc fm_lay fm_nf fm_fk fm_cl b x D dA (fun r n' M' => r = none ∧ n' = n ∧ M' = m_fill M o len v)) args s 0 0 (fm_A b)) fm_lay fm_nf fm_fk fm_cl b x D dA 4 5 [(2, .int (nI i)), (3, .int (nI len)), (0, .ref o), (1, .int v)] [] n (m_fill M o i v) (0, 0) := by
    intro k
    induction k with
    | zero =>
      intro i hi
      have hi : i = len := by omega
      subst hi
      refine fm_iload_n hc d_Ja_fill_5 rfl rfl ?_
      refine fm_iload_n hc d_Ja_fill_6 rfl rfl ?_
      refine fm_icmp_ge (tgt := 20) hc d_Ja_fill_7 rfl (fun h => ?_) (fun h => absurd (nI_le (Nat.le_refl _) (by omega)) h)
      exact fm_vret hc hr d_Ja_fill_20 (Nat.le_of_ble_eq_true rfl) (Nat.le_of_ble_eq_true rfl) ⟨rfl, rfl, rfl⟩
    | succ k ih =>
      intro i hi
      refine fm_iload_n hc d_Ja_fill_5 rfl rfl ?_
      refine fm_iload_n hc d_Ja_fill_6 rfl rfl ?_
      refine fm_icmp_ge (tgt := 20) hc d_Ja_fill_7 rfl (fun h => absurd h (nI_ge (by omega) (by omega))) (fun h => ?_)
      refine fm_aload_n hc d_Ja_fill_10 rfl rfl ?_
      refine fm_iload_n hc d_Ja_fill_11 rfl rfl ?_
      refine fm_iload_n hc d_Ja_fill_12 rfl rfl ?_
      refine fm_iast (len := len) hc 0 d_Ja_fill_13 h8 hn hl rfl (by omega) (by omega) ?_
      refine fm_iinc (v := nI (i + 1)) (lv' := [(2, .int (nI (i + 1))), (3, .int (nI len)), (0, .ref o), (1, .int v)]) hc d_Ja_fill_14 rfl (nI_1 i) (by decide) rfl ?_
      refine fm_goto (tgt := 5) hc d_Ja_fill_17 rfl ?_
      exact fm_mem rfl (m_fill_s M o i v) (ih (i + 1) (by omega))
  refine fm_iconst (v := nI 0) hc d_Ja_fill_0 rfl ?_
  refine fm_istore_n (lv' := [(2, .int (nI 0)), (0, .ref o), (1, .int v)]) hc d_Ja_fill_1 rfl (by decide) rfl ?_
  refine fm_aload_n hc d_Ja_fill_2 rfl rfl ?_
  refine fm_alen (v := nI len) hc 0 d_Ja_fill_3 h8 hn hl (by decide) rfl rfl ?_
  refine fm_istore_n (lv' := [(3, .int (nI len)), (2, .int (nI 0)), (0, .ref o), (1, .int v)]) hc d_Ja_fill_4 rfl (by decide) rfl ?_
  refine fm_drop (lv' := [(2, .int (nI 0)), (3, .int (nI len)), (0, .ref o), (1, .int v)]) (fun q hq => by simp only [List.mem_cons, List.not_mem_nil, or_false] at hq ⊢; rcases hq with h | h | h | h <;> simp [h]) ?_
  exact fm_mem rfl (m_fill_0 M o v).symm (loop len 0 (by omega))
