/-! Script.append -/
def lpc : Nat → Int32
  | 0 => -1
  | c + 1 => nI c
theorem lpc_sub (c : Nat) : nI c - nI 1 = lpc c := by
  cases c with
  | zero => decide
  | succ c => exact (pk_sub (by omega)).trans rfl
theorem lpc_dec (c : Nat) : nI c + (-1) = lpc c := by
  cases c with
  | zero => decide
  | succ c => exact pk_m1 c
theorem p1_other {M : fm_M} {q k o j : Nat} {v : Int32} (h : o ≠ q) : (fm_put1 M q k v).1 o j = M.1 o j := by simp [fm_put1, va_up, h]
def ap_b (y : Int64) (c : Nat) : Int32 := (((y.toUInt64 >>> ((nI (8 * c)).toInt64.toUInt64 &&& Int64.toUInt64 63)).toInt64).toInt32) &&& (nI 255)
def m_app (o q : Nat) (y : Int64) : Nat → Nat → fm_M → fm_M
  | 0, _, M => M
  | c + 1, k, M => m_app o q y c (k + 1) (fm_put1 (fm_put1 M q k (ap_b y c)) o 1 (nI (k + 1)))
theorem c_append_ok {l : Launch} {b : Nat} {x : Nat → Nat} {D : va_G} {dA : Nat → ClassId} {o q n k0 c0 : Nat} {y : Int64} {M0 : fm_M} (h8 : 8 ≤ o) (ho : o < n) (hl : (fm_lay o).1 = 1) (hq8 : 8 ≤ q) (hqn : q < n) (hql : fm_lay q = (100, 48)) (hne : o ≠ q) (hq0 : M0.2.2 o 0 = some q) (hk0 : M0.1 o 1 = nI k0) (hc0 : k0 + c0 ≤ 48) : Met l y_Sc_append (Cond.code y_Sc_append b_Sc_append 5 (some .int) :: fm_T0) ({ frames := 0, cells := 0, slots := 0, locals := 0 }) (fm_Pc fm_lay fm_nf fm_fk fm_cl b x D dA (fm_tys dA) (fm_EX b x) false [.ref o, .long y, .int (nI c0)] n M0) (fm_Qc fm_lay fm_nf fm_fk fm_cl b x D dA (fun r n' M' => r = some (.int (nI (k0 + c0))) ∧ n' = n ∧ M' = m_app o q y c0 k0 M0)) 0 0 (fm_A b) := by
  refine fm_enter (by decide) (Nat.le_of_ble_eq_true rfl) ?_
  intro p e s m args below meth c9 hc hr hnm hex htg
  have loop : ∀ c k (M : fm_M), M.2.2 o 0 = some q → M.1 o 1 = nI k → k + c ≤ 48 → k + c = k0 + c0 → m_app o q y c k M = m_app o q y c0 k0 M0 → fm_G p l e (headSpec (Cond.code y_Sc_append b_Sc_append 5 (some .int) :: fm_T0) ({ frames := 0, cells := 0, slots := 0, locals := 0 })).room s m args below meth c9 (MQ below (fm_Qc fm_lay fm_nf fm_fk fm_cl b x D dA (fun r n' M' => r = some (.int (nI (k0 + c0))) ∧ n' = n ∧ M' = m_app o q y c0 k0 M0)) args s 0 0 (fm_A b)) fm_lay fm_nf fm_fk fm_cl b x D dA 5 18 [(4, .int (lpc c)), (0, .ref o), (1, .long y), (3, .int (nI c0))] [] n M (0, 0) := by
    intro c
    induction c with
    | zero =>
      intro k M hq hk hle hsum hF
      refine fm_iload hc d_Sc_append_18 rfl ?_
      refine fm_if_lt (tgt := 60) hc d_Sc_append_20 rfl (fun _ => ?_) (fun g => absurd (show (-1 : Int32) < 0 by decide) g)
      refine fm_aload_n hc d_Sc_append_60 rfl rfl ?_
      refine fm_getI (k := 1) hc K_Sc d_Sc_append_61 q_280 rfl h8 ho hl (by decide) (by decide) rfl ?_
      refine fm_top (congrArg Value.int hk) ?_
      exact fm_iret hc hr d_Sc_append_64 (Nat.le_refl _) (Nat.le_refl _) ⟨by rw [← hsum]; rfl, rfl, hF⟩
    | succ c ih =>
      intro k M hq hk hle hsum hF
      refine fm_iload hc d_Sc_append_18 rfl ?_
      refine fm_if_lt (tgt := 60) hc d_Sc_append_20 rfl (fun g => absurd g (nI_pos (n := c) (by omega))) (fun _ => ?_)
      refine fm_st (st' := []) rfl ?_
      refine fm_aload_n hc d_Sc_append_23 rfl rfl ?_
      refine fm_getR (k := 0) (q := q) hc K_Sc d_Sc_append_24 q_279 rfl h8 ho hl (by decide) (by decide) rfl hq ?_
      refine fm_aload_n hc d_Sc_append_27 rfl rfl ?_
      refine fm_getI (k := 1) hc K_Sc d_Sc_append_28 q_280 rfl h8 ho hl (by decide) (by decide) rfl ?_
      refine fm_top (congrArg Value.int hk) ?_
      refine fm_lload_n hc d_Sc_append_31 rfl rfl ?_
      refine fm_bipush (v := nI 8) hc d_Sc_append_32 rfl ?_
      refine fm_iload hc d_Sc_append_34 rfl ?_
      refine fm_imul hc d_Sc_append_36 ?_
      refine fm_top (congrArg Value.int (pk_mul 8 c)) ?_
      refine fm_lushr hc d_Sc_append_37 ?_
      refine fm_l2i hc d_Sc_append_38 ?_
      refine fm_sipush (v := nI 255) hc d_Sc_append_39 rfl ?_
      refine fm_iand hc d_Sc_append_42 ?_
      refine fm_iast (j := k) (len := 48) (v := (((y.toUInt64 >>> ((nI (8 * c)).toInt64.toUInt64 &&& Int64.toUInt64 63)).toInt64).toInt32) &&& (nI 255)) hc 0 d_Sc_append_43 hq8 hqn hql rfl (by omega) (by decide) ?_
      refine fm_aload_n hc d_Sc_append_44 rfl rfl ?_
      refine fm_dup hc d_Sc_append_45 rfl ?_
      refine fm_getI (k := 1) hc K_Sc d_Sc_append_46 q_280 rfl h8 ho hl (by decide) (by decide) rfl ?_
      refine fm_top (congrArg Value.int ((p1_other hne).trans hk)) ?_
      refine fm_iconst (v := nI 1) hc d_Sc_append_49 rfl ?_
      refine fm_iadd hc d_Sc_append_50 ?_
      refine fm_top (congrArg Value.int (nI_add k 1)) ?_
      refine fm_putI (k := 1) (v := nI (k + 1)) hc K_Sc d_Sc_append_51 q_280 rfl h8 ho hl (by decide) (by decide) rfl rfl rfl rfl ?_
      refine fm_iinc (v := lpc c) (lv' := [(4, .int (lpc c)), (0, .ref o), (1, .long y), (3, .int (nI c0))]) hc d_Sc_append_54 rfl (lpc_dec c) (by decide) rfl ?_
      refine fm_goto (tgt := 18) hc d_Sc_append_57 rfl ?_
      exact ih (k + 1) _ hq (p1_same _ _ _ _) (by omega) (by omega) hF
  refine fm_aload_n hc d_Sc_append_0 rfl rfl ?_
  refine fm_getI (k := 1) hc K_Sc d_Sc_append_1 q_280 rfl h8 ho hl (by decide) (by decide) rfl ?_
  refine fm_top (congrArg Value.int hk0) ?_
  refine fm_iload_n hc d_Sc_append_4 rfl rfl ?_
  refine fm_iadd hc d_Sc_append_5 ?_
  refine fm_top (congrArg Value.int (nI_add k0 c0)) ?_
  refine fm_bipush (v := nI 48) hc d_Sc_append_6 rfl ?_
  refine fm_icmp_le (tgt := 13) hc d_Sc_append_8 rfl (fun _ => ?_) (fun g => absurd (nI_le hc0 (by decide)) g)
  refine fm_iload_n hc d_Sc_append_13 rfl rfl ?_
  refine fm_iconst (v := nI 1) hc d_Sc_append_14 rfl ?_
  refine fm_isub hc d_Sc_append_15 ?_
  refine fm_top (congrArg Value.int (lpc_sub c0)) ?_
  refine fm_istore (lv' := [(4, .int (lpc c0)), (0, .ref o), (1, .long y), (3, .int (nI c0))]) hc d_Sc_append_16 (by decide) rfl ?_
  exact loop c0 k0 M0 hq0 hk0 hc0 rfl rfl
