/-! THE CLASS: take, takeValue, unpack -/
theorem c_take {l : Launch} {b : Nat} {x : Nat → Nat} {D : va_G} {dA : Nat → ClassId} {o c0 v : Nat} {bs : List Nat} {n : Nat} {M : fm_M} (hL : ms_L n o) (hp7 : M.2.2 o 7 = some (o + 1)) (h : im_C M o bs) (hb : bs.length ≤ 121) (h2 : ∀ v ∈ bs, v < 256) (hcu : M.1 o 6 = nI c0) (hv : bs[c0]? = some v) : Met l y_Ms_take (Cond.code y_Ms_take b_Ms_take 1 (some .int) :: fm_T0) ({ frames := 0, cells := 0, slots := 0, locals := 0 }) (fm_Pc fm_lay fm_nf fm_fk fm_cl b x D dA (fm_tys dA) (fm_EX b x) false [.ref o] n M) (fm_Qc fm_lay fm_nf fm_fk fm_cl b x D dA (fun r n' M' => r = some (.int (nI v)) ∧ n' = n ∧ M' = fm_put1 M o 6 (nI (c0 + 1)))) 0 0 (fm_A b) := by
  refine fm_enter (by decide) (Nat.le_of_ble_eq_true rfl) ?_
  intro p e s m args below meth c9 hc hr hnm hex htg
  have hl1 := hL.1
  have hl2 := hL.2.1
  have hl3 := hL.2.2.1
  have hlt : c0 < bs.length := (List.getElem?_eq_some_iff.mp hv).1
  refine fm_aload_n hc d_Ms_take_0 rfl rfl ?_
  refine fm_getI (k := 6) hc K_Ms d_Ms_take_1 q_61 rfl (by omega) (by omega) hL.2.2.2.1 (by decide) (by decide) rfl ?_
  refine fm_top (congrArg Value.int (show M.1 o 6 = nI c0 from hcu)) ?_
  refine fm_aload_n hc d_Ms_take_4 rfl rfl ?_
  refine fm_getI (k := 5) hc K_Ms d_Ms_take_5 q_60 rfl (by omega) (by omega) hL.2.2.2.1 (by decide) (by decide) rfl ?_
  refine fm_top (congrArg Value.int (show M.1 o 5 = nI bs.length from h.1)) ?_
  refine fm_icmp_lt (tgt := 13) hc d_Ms_take_8 rfl (fun _ => ?_) (fun gQ => absurd (nI_lt hlt (by omega)) gQ)
  refine fm_aload_n hc d_Ms_take_13 rfl rfl ?_
  refine fm_dup hc d_Ms_take_14 rfl ?_
  refine fm_getI (k := 6) hc K_Ms d_Ms_take_15 q_61 rfl (by omega) (by omega) hL.2.2.2.1 (by decide) (by decide) rfl ?_
  refine fm_top (congrArg Value.int (show M.1 o 6 = nI c0 from hcu)) ?_
  refine fm_iconst (v := nI 1) hc d_Ms_take_18 rfl ?_
  refine fm_iadd hc d_Ms_take_19 ?_
  refine fm_top (congrArg Value.int (nI_add c0 1)) ?_
  refine fm_putI (k := 6) (v := nI (c0 + 1)) hc K_Ms d_Ms_take_20 q_61 rfl (by omega) (by omega) hL.2.2.2.1 (by decide) (by decide) rfl rfl rfl rfl ?_
  refine fm_aload_n hc d_Ms_take_23 rfl rfl ?_
  refine fm_getR (k := 7) (q := o + 1) hc K_Ms d_Ms_take_24 q_62 rfl (by omega) (by omega) hL.2.2.2.1 (by decide) (by decide) rfl hp7 ?_
  refine fm_aload_n hc d_Ms_take_27 rfl rfl ?_
  refine fm_getI (k := 6) hc K_Ms d_Ms_take_28 q_61 rfl (by omega) (by omega) hL.2.2.2.1 (by decide) (by decide) rfl ?_
  refine fm_top (congrArg Value.int (show (fm_put1 M o 6 (nI (c0 + 1))).1 o 6 = nI (c0 + 1) from (p1_same _ _ _ _))) ?_
  refine fm_iconst (v := nI 1) hc d_Ms_take_31 rfl ?_
  refine fm_isub hc d_Ms_take_32 ?_
  refine fm_top (congrArg Value.int (pk_sub (a := c0 + 1) (b := 1) (by omega))) ?_
  refine fm_top (congrArg Value.int (show nI ((c0 + 1) - 1) = nI c0 from (congrArg nI (Nat.add_sub_cancel c0 1)))) ?_
  refine fm_bald (j := c0) (len := 121) hc 2 d_Ms_take_33 (by omega) (by omega) hL.2.2.2.2 rfl (by omega) (by decide) ?_
  refine fm_top (congrArg Value.int (show (fm_put1 M o 6 (nI (c0 + 1))).1 (o + 1) c0 = (nI v).toInt8.toInt32 from ((p1_other (by omega)).trans (h.2 c0 v hv)))) ?_
  refine fm_sipush (v := nI 255) hc d_Ms_take_34 rfl ?_
  refine fm_iand hc d_Ms_take_37 ?_
  refine fm_top (congrArg Value.int (show ((nI v).toInt8.toInt32) &&& (nI 255) = nI v from (i8_255 v (h2 v (List.mem_of_getElem? hv))))) ?_
  exact fm_iret hc hr d_Ms_take_38 (Nat.le_refl _) (Nat.le_refl _) ⟨rfl, rfl, rfl⟩
theorem imC_o1 {o q j : Nat} {v : Int32} {bs : List Nat} {M : fm_M} (hq : ¬ (q = o ∧ j = 5)) (h1 : q ≠ o + 1) (h : im_C M o bs) : im_C (fm_put1 M q j v) o bs := by
  refine ⟨?_, fun i w hw => (p1_other (Ne.symm h1)).trans (h.2 i w hw)⟩
  by_cases g : o = q
  · subst g
    exact (p1_at (by omega)).trans h.1
  · exact (p1_other g).trans h.1
theorem p6_fr {o : Nat} {M : fm_M} {v : Int32} : ∀ q j, ¬ (q = o ∧ j = 6) → (fm_put1 M o 6 v).1 q j = M.1 q j := fun q j a => by
  by_cases g : q = o
  · subst g
    exact p1_at (by omega)
  · exact p1_other g
theorem c_takeV1 {l : Launch} {b : Nat} {x : Nat → Nat} {D : va_G} {dA : Nat → ClassId} {o c0 n : Nat} {y : Int32} {bs : List Nat} {M : fm_M} (hL : ms_L n o) (hp7 : M.2.2 o 7 = some (o + 1)) (h : im_C M o bs) (hb : bs.length ≤ 121) (h2 : ∀ v ∈ bs, v < 256) (hcu : M.1 o 6 = nI c0) (hv : im_at bs c0 (im_V (.inl y))) : Met l y_Ms_takeValue (Cond.code y_Ms_takeValue b_Ms_takeValue 3 (some .long) :: fm_T0) ({ frames := 1, cells := 0, slots := 0, locals := 30 }) (fm_Pc fm_lay fm_nf fm_fk fm_cl b x D dA (fm_tys dA) (fm_EX b x) false [.ref o] n M) (fm_Qc fm_lay fm_nf fm_fk fm_cl b x D dA (fun r n' M' => r = some (.long y.toInt64) ∧ n' = n ∧ M'.1 o 6 = nI (c0 + 5) ∧ M'.2 = M.2 ∧ ∀ q j, ¬ (q = o ∧ j = 6) → M'.1 q j = M.1 q j)) 0 0 (fm_A b) := by
  refine fm_enter (by decide) (Nat.le_of_ble_eq_true rfl) ?_
  intro p e s m args below meth c9 hc hr hnm hex htg
  have hl1 := hL.1
  have hl2 := hL.2.1
  have hl3 := hL.2.2.1
  have b0 := hv 0 _ rfl
  have b1 := hv 1 _ rfl
  have b2 := hv 2 _ rfl
  have b3 := hv 3 _ rfl
  have b4 := hv 4 _ rfl
  refine fm_aload_n hc d_Ms_takeValue_0 rfl rfl ?_
  refine fm_callV (av := []) (rest := []) (ob := o) (ci := 9) (r0 := ("AgentNet$Message", F_Ms, 8)) (y := y_Ms_take) (bytes := b_Ms_take) hc fm_T0_good (fm_EX_st b x) hex q_868 q_3 q_865 q_867 qs_Ms_take pd_Ms_take (by omega) (by omega) hL.2.2.2.1 (by decide) rfl rfl (c_take (M := M) (v := 0) hL hp7 h hb h2 hcu b0) ⟨rfl, rfl, Nat.le_of_ble_eq_true rfl, Nat.le_of_ble_eq_true rfl⟩ ⟨Nat.le_of_ble_eq_true rfl, Nat.le_of_ble_eq_true rfl⟩ d_Ms_takeValue_1 (Nat.le_of_ble_eq_true rfl) (fun r n2 M2 hp => ?_)
  obtain ⟨rfl, hq1, hq2⟩ := hp
  replace hq1 := hq1.symm
  replace hq2 := hq2.symm
  subst hq1 hq2
  refine fm_cnt (z' := (0, 0)) rfl (fm_st (st' := [.int (nI 0)]) rfl ?_)
  refine fm_iconst (v := nI 1) hc d_Ms_takeValue_4 rfl ?_
  refine fm_icmp_ne (tgt := 18) hc d_Ms_takeValue_5 rfl (fun _ => ?_) (fun gQ => absurd gQ (by decide))
  refine fm_iconst (v := nI 0) hc d_Ms_takeValue_18 rfl ?_
  refine fm_istore_n (lv' := [(1, .int (nI 0)), (0, .ref o)]) hc d_Ms_takeValue_19 rfl (by decide) rfl ?_
  refine fm_iconst (v := nI 0) hc d_Ms_takeValue_20 rfl ?_
  refine fm_istore_n (lv' := [(2, .int (nI 0)), (1, .int (nI 0)), (0, .ref o)]) hc d_Ms_takeValue_21 rfl (by decide) rfl ?_
  refine fm_iload_n hc d_Ms_takeValue_22 rfl rfl ?_
  refine fm_iconst (v := nI 4) hc d_Ms_takeValue_23 rfl ?_
  refine fm_icmp_ge (tgt := 43) hc d_Ms_takeValue_24 rfl (fun gQ => absurd gQ (by decide)) (fun _ => ?_)
  refine fm_iload_n hc d_Ms_takeValue_27 rfl rfl ?_
  refine fm_bipush (v := nI 8) hc d_Ms_takeValue_28 rfl ?_
  refine fm_ishl hc d_Ms_takeValue_30 ?_
  refine fm_aload_n hc d_Ms_takeValue_31 rfl rfl ?_
  refine fm_callV (av := []) (rest := [.int ((nI 0) <<< (nI 8 &&& 31))]) (ob := o) (ci := 9) (r0 := ("AgentNet$Message", F_Ms, 8)) (y := y_Ms_take) (bytes := b_Ms_take) hc fm_T0_good (fm_EX_st b x) hex q_868 q_3 q_865 q_867 qs_Ms_take pd_Ms_take (by omega) (by omega) hL.2.2.2.1 (by decide) rfl rfl (c_take (M := fm_put1 M o 6 (nI (c0 + 1))) (v := by8 24 y) hL hp7 (imC_o1 (o := o) (by omega) (by omega) h) hb h2 (p1_same _ _ _ _) b1) ⟨rfl, rfl, Nat.le_of_ble_eq_true rfl, Nat.le_of_ble_eq_true rfl⟩ ⟨Nat.le_of_ble_eq_true rfl, Nat.le_of_ble_eq_true rfl⟩ d_Ms_takeValue_32 (Nat.le_of_ble_eq_true rfl) (fun r n2 M2 hp => ?_)
  obtain ⟨rfl, hq1, hq2⟩ := hp
  replace hq1 := hq1.symm
  replace hq2 := hq2.symm
  subst hq1 hq2
  refine fm_cnt (z' := (0, 0)) rfl (fm_st (st' := [.int (nI (by8 24 y)), .int ((nI 0) <<< (nI 8 &&& 31))]) rfl ?_)
  refine fm_ior hc d_Ms_takeValue_35 ?_
  refine fm_istore_n (lv' := [(1, .int (((nI 0) <<< (nI 8 &&& 31)) ||| (nI (by8 24 y)))), (2, .int (nI 0)), (0, .ref o)]) hc d_Ms_takeValue_36 rfl (by decide) rfl ?_
  refine fm_iinc (v := nI 1) (lv' := [(2, .int (nI 1)), (1, .int (((nI 0) <<< (nI 8 &&& 31)) ||| (nI (by8 24 y)))), (0, .ref o)]) hc d_Ms_takeValue_37 rfl (by decide) (by decide) rfl ?_
  refine fm_goto (tgt := 22) hc d_Ms_takeValue_40 rfl ?_
  refine fm_iload_n hc d_Ms_takeValue_22 rfl rfl ?_
  refine fm_iconst (v := nI 4) hc d_Ms_takeValue_23 rfl ?_
  refine fm_icmp_ge (tgt := 43) hc d_Ms_takeValue_24 rfl (fun gQ => absurd gQ (by decide)) (fun _ => ?_)
  refine fm_iload_n hc d_Ms_takeValue_27 rfl rfl ?_
  refine fm_bipush (v := nI 8) hc d_Ms_takeValue_28 rfl ?_
  refine fm_ishl hc d_Ms_takeValue_30 ?_
  refine fm_aload_n hc d_Ms_takeValue_31 rfl rfl ?_
  refine fm_callV (av := []) (rest := [.int ((((nI 0) <<< (nI 8 &&& 31)) ||| (nI (by8 24 y))) <<< (nI 8 &&& 31))]) (ob := o) (ci := 9) (r0 := ("AgentNet$Message", F_Ms, 8)) (y := y_Ms_take) (bytes := b_Ms_take) hc fm_T0_good (fm_EX_st b x) hex q_868 q_3 q_865 q_867 qs_Ms_take pd_Ms_take (by omega) (by omega) hL.2.2.2.1 (by decide) rfl rfl (c_take (M := fm_put1 (fm_put1 M o 6 (nI (c0 + 1))) o 6 (nI (c0 + 1 + 1))) (v := by8 16 y) hL hp7 (imC_o1 (o := o) (by omega) (by omega) (imC_o1 (o := o) (by omega) (by omega) h)) hb h2 (p1_same _ _ _ _) b2) ⟨rfl, rfl, Nat.le_of_ble_eq_true rfl, Nat.le_of_ble_eq_true rfl⟩ ⟨Nat.le_of_ble_eq_true rfl, Nat.le_of_ble_eq_true rfl⟩ d_Ms_takeValue_32 (Nat.le_of_ble_eq_true rfl) (fun r n2 M2 hp => ?_)
  obtain ⟨rfl, hq1, hq2⟩ := hp
  replace hq1 := hq1.symm
  replace hq2 := hq2.symm
  subst hq1 hq2
  refine fm_cnt (z' := (0, 0)) rfl (fm_st (st' := [.int (nI (by8 16 y)), .int ((((nI 0) <<< (nI 8 &&& 31)) ||| (nI (by8 24 y))) <<< (nI 8 &&& 31))]) rfl ?_)
  refine fm_ior hc d_Ms_takeValue_35 ?_
  refine fm_istore_n (lv' := [(1, .int (((((nI 0) <<< (nI 8 &&& 31)) ||| (nI (by8 24 y))) <<< (nI 8 &&& 31)) ||| (nI (by8 16 y)))), (2, .int (nI 1)), (0, .ref o)]) hc d_Ms_takeValue_36 rfl (by decide) rfl ?_
  refine fm_iinc (v := nI 2) (lv' := [(2, .int (nI 2)), (1, .int (((((nI 0) <<< (nI 8 &&& 31)) ||| (nI (by8 24 y))) <<< (nI 8 &&& 31)) ||| (nI (by8 16 y)))), (0, .ref o)]) hc d_Ms_takeValue_37 rfl (by decide) (by decide) rfl ?_
  refine fm_goto (tgt := 22) hc d_Ms_takeValue_40 rfl ?_
  refine fm_iload_n hc d_Ms_takeValue_22 rfl rfl ?_
  refine fm_iconst (v := nI 4) hc d_Ms_takeValue_23 rfl ?_
  refine fm_icmp_ge (tgt := 43) hc d_Ms_takeValue_24 rfl (fun gQ => absurd gQ (by decide)) (fun _ => ?_)
  refine fm_iload_n hc d_Ms_takeValue_27 rfl rfl ?_
  refine fm_bipush (v := nI 8) hc d_Ms_takeValue_28 rfl ?_
  refine fm_ishl hc d_Ms_takeValue_30 ?_
  refine fm_aload_n hc d_Ms_takeValue_31 rfl rfl ?_
  refine fm_callV (av := []) (rest := [.int ((((((nI 0) <<< (nI 8 &&& 31)) ||| (nI (by8 24 y))) <<< (nI 8 &&& 31)) ||| (nI (by8 16 y))) <<< (nI 8 &&& 31))]) (ob := o) (ci := 9) (r0 := ("AgentNet$Message", F_Ms, 8)) (y := y_Ms_take) (bytes := b_Ms_take) hc fm_T0_good (fm_EX_st b x) hex q_868 q_3 q_865 q_867 qs_Ms_take pd_Ms_take (by omega) (by omega) hL.2.2.2.1 (by decide) rfl rfl (c_take (M := fm_put1 (fm_put1 (fm_put1 M o 6 (nI (c0 + 1))) o 6 (nI (c0 + 1 + 1))) o 6 (nI (c0 + 1 + 1 + 1))) (v := by8 8 y) hL hp7 (imC_o1 (o := o) (by omega) (by omega) (imC_o1 (o := o) (by omega) (by omega) (imC_o1 (o := o) (by omega) (by omega) h))) hb h2 (p1_same _ _ _ _) b3) ⟨rfl, rfl, Nat.le_of_ble_eq_true rfl, Nat.le_of_ble_eq_true rfl⟩ ⟨Nat.le_of_ble_eq_true rfl, Nat.le_of_ble_eq_true rfl⟩ d_Ms_takeValue_32 (Nat.le_of_ble_eq_true rfl) (fun r n2 M2 hp => ?_)
  obtain ⟨rfl, hq1, hq2⟩ := hp
  replace hq1 := hq1.symm
  replace hq2 := hq2.symm
  subst hq1 hq2
  refine fm_cnt (z' := (0, 0)) rfl (fm_st (st' := [.int (nI (by8 8 y)), .int ((((((nI 0) <<< (nI 8 &&& 31)) ||| (nI (by8 24 y))) <<< (nI 8 &&& 31)) ||| (nI (by8 16 y))) <<< (nI 8 &&& 31))]) rfl ?_)
  refine fm_ior hc d_Ms_takeValue_35 ?_
  refine fm_istore_n (lv' := [(1, .int (((((((nI 0) <<< (nI 8 &&& 31)) ||| (nI (by8 24 y))) <<< (nI 8 &&& 31)) ||| (nI (by8 16 y))) <<< (nI 8 &&& 31)) ||| (nI (by8 8 y)))), (2, .int (nI 2)), (0, .ref o)]) hc d_Ms_takeValue_36 rfl (by decide) rfl ?_
  refine fm_iinc (v := nI 3) (lv' := [(2, .int (nI 3)), (1, .int (((((((nI 0) <<< (nI 8 &&& 31)) ||| (nI (by8 24 y))) <<< (nI 8 &&& 31)) ||| (nI (by8 16 y))) <<< (nI 8 &&& 31)) ||| (nI (by8 8 y)))), (0, .ref o)]) hc d_Ms_takeValue_37 rfl (by decide) (by decide) rfl ?_
  refine fm_goto (tgt := 22) hc d_Ms_takeValue_40 rfl ?_
  refine fm_iload_n hc d_Ms_takeValue_22 rfl rfl ?_
  refine fm_iconst (v := nI 4) hc d_Ms_takeValue_23 rfl ?_
  refine fm_icmp_ge (tgt := 43) hc d_Ms_takeValue_24 rfl (fun gQ => absurd gQ (by decide)) (fun _ => ?_)
  refine fm_iload_n hc d_Ms_takeValue_27 rfl rfl ?_
  refine fm_bipush (v := nI 8) hc d_Ms_takeValue_28 rfl ?_
  refine fm_ishl hc d_Ms_takeValue_30 ?_
  refine fm_aload_n hc d_Ms_takeValue_31 rfl rfl ?_
  refine fm_callV (av := []) (rest := [.int ((((((((nI 0) <<< (nI 8 &&& 31)) ||| (nI (by8 24 y))) <<< (nI 8 &&& 31)) ||| (nI (by8 16 y))) <<< (nI 8 &&& 31)) ||| (nI (by8 8 y))) <<< (nI 8 &&& 31))]) (ob := o) (ci := 9) (r0 := ("AgentNet$Message", F_Ms, 8)) (y := y_Ms_take) (bytes := b_Ms_take) hc fm_T0_good (fm_EX_st b x) hex q_868 q_3 q_865 q_867 qs_Ms_take pd_Ms_take (by omega) (by omega) hL.2.2.2.1 (by decide) rfl rfl (c_take (M := fm_put1 (fm_put1 (fm_put1 (fm_put1 M o 6 (nI (c0 + 1))) o 6 (nI (c0 + 1 + 1))) o 6 (nI (c0 + 1 + 1 + 1))) o 6 (nI (c0 + 1 + 1 + 1 + 1))) (v := by8 0 y) hL hp7 (imC_o1 (o := o) (by omega) (by omega) (imC_o1 (o := o) (by omega) (by omega) (imC_o1 (o := o) (by omega) (by omega) (imC_o1 (o := o) (by omega) (by omega) h)))) hb h2 (p1_same _ _ _ _) b4) ⟨rfl, rfl, Nat.le_of_ble_eq_true rfl, Nat.le_of_ble_eq_true rfl⟩ ⟨Nat.le_of_ble_eq_true rfl, Nat.le_of_ble_eq_true rfl⟩ d_Ms_takeValue_32 (Nat.le_of_ble_eq_true rfl) (fun r n2 M2 hp => ?_)
  obtain ⟨rfl, hq1, hq2⟩ := hp
  replace hq1 := hq1.symm
  replace hq2 := hq2.symm
  subst hq1 hq2
  refine fm_cnt (z' := (0, 0)) rfl (fm_st (st' := [.int (nI (by8 0 y)), .int ((((((((nI 0) <<< (nI 8 &&& 31)) ||| (nI (by8 24 y))) <<< (nI 8 &&& 31)) ||| (nI (by8 16 y))) <<< (nI 8 &&& 31)) ||| (nI (by8 8 y))) <<< (nI 8 &&& 31))]) rfl ?_)
  refine fm_ior hc d_Ms_takeValue_35 ?_
  refine fm_istore_n (lv' := [(1, .int (((((((((nI 0) <<< (nI 8 &&& 31)) ||| (nI (by8 24 y))) <<< (nI 8 &&& 31)) ||| (nI (by8 16 y))) <<< (nI 8 &&& 31)) ||| (nI (by8 8 y))) <<< (nI 8 &&& 31)) ||| (nI (by8 0 y)))), (2, .int (nI 3)), (0, .ref o)]) hc d_Ms_takeValue_36 rfl (by decide) rfl ?_
  refine fm_iinc (v := nI 4) (lv' := [(2, .int (nI 4)), (1, .int (((((((((nI 0) <<< (nI 8 &&& 31)) ||| (nI (by8 24 y))) <<< (nI 8 &&& 31)) ||| (nI (by8 16 y))) <<< (nI 8 &&& 31)) ||| (nI (by8 8 y))) <<< (nI 8 &&& 31)) ||| (nI (by8 0 y)))), (0, .ref o)]) hc d_Ms_takeValue_37 rfl (by decide) (by decide) rfl ?_
  refine fm_goto (tgt := 22) hc d_Ms_takeValue_40 rfl ?_
  refine fm_iload_n hc d_Ms_takeValue_22 rfl rfl ?_
  refine fm_iconst (v := nI 4) hc d_Ms_takeValue_23 rfl ?_
  refine fm_icmp_ge (tgt := 43) hc d_Ms_takeValue_24 rfl (fun _ => ?_) (fun gQ => absurd (by decide) gQ)
  refine fm_iload_n hc d_Ms_takeValue_43 rfl rfl ?_
  refine fm_top (congrArg Value.int (show ((((((((nI 0) <<< (nI 8 &&& 31)) ||| (nI (by8 24 y))) <<< (nI 8 &&& 31)) ||| (nI (by8 16 y))) <<< (nI 8 &&& 31)) ||| (nI (by8 8 y))) <<< (nI 8 &&& 31)) ||| (nI (by8 0 y)) = y from (by8_v y))) ?_
  refine fm_i2l hc d_Ms_takeValue_44 ?_
  exact fm_lret hc hr d_Ms_takeValue_45 (Nat.le_refl _) (Nat.le_refl _) ⟨rfl, rfl, p1_same _ _ _ _, rfl, fun q j a => (p6_fr q j a).trans ((p6_fr q j a).trans ((p6_fr q j a).trans ((p6_fr q j a).trans (p6_fr q j a))))⟩
theorem c_takeV2 {l : Launch} {b : Nat} {x : Nat → Nat} {D : va_G} {dA : Nat → ClassId} {o c0 k n : Nat} {bs : List Nat} {M : fm_M} (hL : ms_L n o) (hp7 : M.2.2 o 7 = some (o + 1)) (h : im_C M o bs) (hb : bs.length ≤ 121) (h2 : ∀ v ∈ bs, v < 256) (hcu : M.1 o 6 = nI c0) (hv : im_at bs c0 (im_V (.inr k))) : Met l y_Ms_takeValue (Cond.code y_Ms_takeValue b_Ms_takeValue 3 (some .long) :: fm_T0) ({ frames := 1, cells := 0, slots := 0, locals := 30 }) (fm_Pc fm_lay fm_nf fm_fk fm_cl b x D dA (fm_tys dA) (fm_EX b x) false [.ref o] n M) (fm_Qc fm_lay fm_nf fm_fk fm_cl b x D dA (fun r n' M' => r = some (.long (1099511627776 + (nI k).toInt64)) ∧ n' = n ∧ M'.1 o 6 = nI (c0 + 2) ∧ M'.2 = M.2 ∧ ∀ q j, ¬ (q = o ∧ j = 6) → M'.1 q j = M.1 q j)) 0 0 (fm_A b) := by
  refine fm_enter (by decide) (Nat.le_of_ble_eq_true rfl) ?_
  intro p e s m args below meth c9 hc hr hnm hex htg
  have hl1 := hL.1
  have hl2 := hL.2.1
  have hl3 := hL.2.2.1
  have b0 := hv 0 _ rfl
  have b1 := hv 1 _ rfl
  refine fm_aload_n hc d_Ms_takeValue_0 rfl rfl ?_
  refine fm_callV (av := []) (rest := []) (ob := o) (ci := 9) (r0 := ("AgentNet$Message", F_Ms, 8)) (y := y_Ms_take) (bytes := b_Ms_take) hc fm_T0_good (fm_EX_st b x) hex q_868 q_3 q_865 q_867 qs_Ms_take pd_Ms_take (by omega) (by omega) hL.2.2.2.1 (by decide) rfl rfl (c_take (M := M) (v := 1) hL hp7 h hb h2 hcu b0) ⟨rfl, rfl, Nat.le_of_ble_eq_true rfl, Nat.le_of_ble_eq_true rfl⟩ ⟨Nat.le_of_ble_eq_true rfl, Nat.le_of_ble_eq_true rfl⟩ d_Ms_takeValue_1 (Nat.le_of_ble_eq_true rfl) (fun r n2 M2 hp => ?_)
  obtain ⟨rfl, hq1, hq2⟩ := hp
  replace hq1 := hq1.symm
  replace hq2 := hq2.symm
  subst hq1 hq2
  refine fm_cnt (z' := (0, 0)) rfl (fm_st (st' := [.int (nI 1)]) rfl ?_)
  refine fm_iconst (v := nI 1) hc d_Ms_takeValue_4 rfl ?_
  refine fm_icmp_ne (tgt := 18) hc d_Ms_takeValue_5 rfl (fun gQ => absurd (by decide) gQ) (fun _ => ?_)
  refine fm_ldc2 (v := 1099511627776) hc d_Ms_takeValue_8 q_747 ?_
  refine fm_aload_n hc d_Ms_takeValue_11 rfl rfl ?_
  refine fm_callV (av := []) (rest := [.long 1099511627776]) (ob := o) (ci := 9) (r0 := ("AgentNet$Message", F_Ms, 8)) (y := y_Ms_take) (bytes := b_Ms_take) hc fm_T0_good (fm_EX_st b x) hex q_868 q_3 q_865 q_867 qs_Ms_take pd_Ms_take (by omega) (by omega) hL.2.2.2.1 (by decide) rfl rfl (c_take (M := fm_put1 M o 6 (nI (c0 + 1))) (v := k) hL hp7 (imC_o1 (o := o) (by omega) (by omega) h) hb h2 (p1_same _ _ _ _) b1) ⟨rfl, rfl, Nat.le_of_ble_eq_true rfl, Nat.le_of_ble_eq_true rfl⟩ ⟨Nat.le_of_ble_eq_true rfl, Nat.le_of_ble_eq_true rfl⟩ d_Ms_takeValue_12 (Nat.le_of_ble_eq_true rfl) (fun r n2 M2 hp => ?_)
  obtain ⟨rfl, hq1, hq2⟩ := hp
  replace hq1 := hq1.symm
  replace hq2 := hq2.symm
  subst hq1 hq2
  refine fm_cnt (z' := (0, 0)) rfl (fm_st (st' := [.int (nI k), .long 1099511627776]) rfl ?_)
  refine fm_i2l hc d_Ms_takeValue_15 ?_
  refine fm_ladd hc d_Ms_takeValue_16 ?_
  exact fm_lret hc hr d_Ms_takeValue_17 (Nat.le_refl _) (Nat.le_refl _) ⟨rfl, rfl, p1_same _ _ _ _, rfl, fun q j a => (p6_fr q j a).trans (p6_fr q j a)⟩
theorem c_takeV {l : Launch} {b : Nat} {x : Nat → Nat} {D : va_G} {dA : Nat → ClassId} {o c0 n : Nat} {v : bf_V} {bs : List Nat} {M : fm_M} (hL : ms_L n o) (hp7 : M.2.2 o 7 = some (o + 1)) (h : im_C M o bs) (hb : bs.length ≤ 121) (h2 : ∀ v ∈ bs, v < 256) (hcu : M.1 o 6 = nI c0) (hv : im_at bs c0 (im_V v)) : Met l y_Ms_takeValue (Cond.code y_Ms_takeValue b_Ms_takeValue 3 (some .long) :: fm_T0) ({ frames := 1, cells := 0, slots := 0, locals := 30 }) (fm_Pc fm_lay fm_nf fm_fk fm_cl b x D dA (fm_tys dA) (fm_EX b x) false [.ref o] n M) (fm_Qc fm_lay fm_nf fm_fk fm_cl b x D dA (fun r n' M' => r = some (.long (e64 v)) ∧ n' = n ∧ M'.1 o 6 = nI (c0 + (im_V v).length) ∧ M'.2 = M.2 ∧ ∀ q j, ¬ (q = o ∧ j = 6) → M'.1 q j = M.1 q j)) 0 0 (fm_A b) := by
  cases v with
  | inl y => exact c_takeV1 hL hp7 h hb h2 hcu hv
  | inr k => exact c_takeV2 hL hp7 h hb h2 hcu hv
theorem or_0 : ∀ f, f < 256 → nI 0 ||| nI f = nI f := by decide +kernel
theorem imC_fr {o : Nat} {bs : List Nat} {M M' : fm_M} (f : ∀ q j, ¬ (q = o ∧ j = 6) → M'.1 q j = M.1 q j) (h : im_C M o bs) : im_C M' o bs := ⟨(f _ _ (by omega)).trans h.1, fun i w hw => (f _ _ (by omega)).trans (h.2 i w hw)⟩
theorem imC_o2 {o q j : Nat} {v : Int64} {bs : List Nat} {M : fm_M} (h : im_C M o bs) : im_C (fm_put2 M q j v) o bs := h
theorem c_unpack {l : Launch} {b : Nat} {x : Nat → Nat} {D : va_G} {dA : Nat → ClassId} {o t a n : Nat} {A : ag_T} {M : fm_M} (hL : ms_L n o) (hp7 : M.2.2 o 7 = some (o + 1)) (hT : tr_L n t) (hq : tr_P M t) (h : im_C M o (im_B A)) (ha8 : a < 8) (hw : ag_wf a A) : Met l y_Ms_unpack (Cond.code y_Ms_unpack b_Ms_unpack 3 none :: fm_T0) ({ frames := 2, cells := 0, slots := 0, locals := 60 }) (fm_Pc fm_lay fm_nf fm_fk fm_cl b x D dA (fm_tys dA) (fm_EX b x) false [.ref o, .ref t] n M) (fm_Qc fm_lay fm_nf fm_fk fm_cl b x D dA (fun r n' M' => r = none ∧ n' = n ∧ hc_A M' t A ∧ M'.2.2 = M.2.2 ∧ (∀ q j, q ≠ t → ¬ (q = o ∧ j = 6) → M'.1 q j = M.1 q j) ∧ (∀ q, q ≠ t + 1 → q ≠ t + 2 → q ≠ t + 3 → M'.2.1 q = M.2.1 q))) 0 0 (fm_A b) := by
  refine fm_enter (by decide) (Nat.le_of_ble_eq_true rfl) ?_
  intro p e s m args below meth c9 hc hr hnm hex htg
  have hl1 := hL.1
  have hl2 := hL.2.1
  have hl3 := hL.2.2.1
  have ht1 := hT.1
  have ht2 := hT.2.1
  have ok := hw.1
  have ok1 := ok.1
  have ok2 := ok.2.1
  have w3 : A.1 4 + A.1 3 ≤ 200 := hw.2.2.2.2.2.1
  have w7 : A.1 7 ≤ 1 := hw.2.2.2.2.2.2.2.2
  have hb := imB_len ok
  have h2 := imB_256 ha8 hw
  have hat : im_at (im_B A) 0 (im_B A) := imA_self _
  have hH : im_at (im_B A) 0 (im_H A.1 A.2.1.length) := imA_left hat
  have hS := imA_left (imA_right hat)
  have hQ1 := imA_left (imA_right (imA_right hat))
  have hQ2 := imA_right (imA_right (imA_right hat))
  have l10 : (im_H A.1 A.2.1.length).length = 10 := rfl
  rw [l10, Nat.zero_add] at hS hQ1 hQ2
  generalize hbs : im_B A = bs at h hb h2 hat hH hS hQ1 hQ2
  have b0 := hH 0 _ rfl
  have b1 := hH 1 _ rfl
  have b2 := hH 2 _ rfl
  have b3 := hH 3 _ rfl
  have b4 := hH 4 _ rfl
  have b5 := hH 5 _ rfl
  have b6 := hH 6 _ rfl
  have b7 := hH 7 _ rfl
  have b8 := hH 8 _ rfl
  have b9 := hH 9 _ rfl
  simp only [Nat.zero_add] at b0 b1 b2 b3 b4 b5 b6 b7 b8 b9
  refine fm_aload_n hc d_Ms_unpack_0 rfl rfl ?_
  refine fm_iconst (v := nI 0) hc d_Ms_unpack_1 rfl ?_
  refine fm_putI (k := 6) (v := nI 0) hc K_Ms d_Ms_unpack_2 q_61 rfl (by omega) (by omega) hL.2.2.2.1 (by decide) (by decide) rfl rfl rfl rfl ?_
  refine fm_mem (M' := fm_put1 M o 6 (nI 0)) rfl rfl ?_
  refine fm_aload_n hc d_Ms_unpack_5 rfl rfl ?_
  refine fm_aload_n hc d_Ms_unpack_6 rfl rfl ?_
  refine fm_callV (av := []) (rest := [.ref t]) (ob := o) (ci := 9) (r0 := ("AgentNet$Message", F_Ms, 8)) (y := y_Ms_take) (bytes := b_Ms_take) hc fm_T0_good (fm_EX_st b x) hex q_868 q_3 q_865 q_867 qs_Ms_take pd_Ms_take (by omega) (by omega) hL.2.2.2.1 (by decide) rfl rfl (c_take (M := fm_put1 M o 6 (nI 0)) (v := A.1 0) (c0 := 0) (bs := bs) hL hp7 (imC_o1 (o := o) (by omega) (by omega) h) hb h2 (p1_same _ _ _ _) b0) ⟨rfl, rfl, Nat.le_of_ble_eq_true rfl, Nat.le_of_ble_eq_true rfl⟩ ⟨Nat.le_of_ble_eq_true rfl, Nat.le_of_ble_eq_true rfl⟩ d_Ms_unpack_7 (Nat.le_of_ble_eq_true rfl) (fun r n2 M2 hp => ?_)
  obtain ⟨rfl, hq1, hq2⟩ := hp
  replace hq1 := hq1.symm
  replace hq2 := hq2.symm
  subst hq1 hq2
  refine fm_cnt (z' := (0, 0)) rfl (fm_st (st' := [.int (nI (A.1 0)), .ref t]) rfl ?_)
  refine fm_putI (k := 0) (v := nI (A.1 0)) hc K_Tr d_Ms_unpack_10 q_173 rfl (by omega) (by omega) hT.2.2.1 (by decide) (by decide) rfl rfl rfl rfl ?_
  refine fm_nm (fun Q1 eQ1 => ?_)
  have iQ1 : im_C Q1 o bs := by rw [eQ1]; exact imC_o1 (by omega) (by omega) (imC_o1 (o := o) (by omega) (by omega) (imC_o1 (o := o) (by omega) (by omega) h))
  have cQ1 : Q1.1 o 6 = nI (0 + 1) := by rw [eQ1]; exact (p1_other (by omega)).trans (p1_same _ _ _ _)
  have sQ1 : Q1.2 = M.2 := by rw [eQ1]; exact rfl
  have fQ1 : ∀ q j, q ≠ t → ¬ (q = o ∧ j = 6) → Q1.1 q j = M.1 q j := fun q j a b => by rw [eQ1]; exact (p1_other a).trans ((p6_fr q j b).trans ((p6_fr q j b).trans (rfl)))
  have nQ1_0 : Q1.1 t 0 = nI (A.1 0) := by rw [eQ1]; exact p1_same _ _ _ _
  clear eQ1
  refine fm_aload_n hc d_Ms_unpack_13 rfl rfl ?_
  refine fm_aload_n hc d_Ms_unpack_14 rfl rfl ?_
  refine fm_callV (av := []) (rest := [.ref t]) (ob := o) (ci := 9) (r0 := ("AgentNet$Message", F_Ms, 8)) (y := y_Ms_take) (bytes := b_Ms_take) hc fm_T0_good (fm_EX_st b x) hex q_868 q_3 q_865 q_867 qs_Ms_take pd_Ms_take (by omega) (by omega) hL.2.2.2.1 (by decide) rfl rfl (c_take (M := Q1) (v := A.1 1) (c0 := 0 + 1) (bs := bs) hL (by rw [sQ1]; exact hp7) iQ1 hb h2 cQ1 b1) ⟨rfl, rfl, Nat.le_of_ble_eq_true rfl, Nat.le_of_ble_eq_true rfl⟩ ⟨Nat.le_of_ble_eq_true rfl, Nat.le_of_ble_eq_true rfl⟩ d_Ms_unpack_15 (Nat.le_of_ble_eq_true rfl) (fun r n2 M2 hp => ?_)
  obtain ⟨rfl, hq1, hq2⟩ := hp
  replace hq1 := hq1.symm
  replace hq2 := hq2.symm
  subst hq1 hq2
  refine fm_cnt (z' := (0, 0)) rfl (fm_st (st' := [.int (nI (A.1 1)), .ref t]) rfl ?_)
  refine fm_putI (k := 1) (v := nI (A.1 1)) hc K_Tr d_Ms_unpack_18 q_178 rfl (by omega) (by omega) hT.2.2.1 (by decide) (by decide) rfl rfl rfl rfl ?_
  refine fm_nm (fun Q2 eQ2 => ?_)
  have iQ2 : im_C Q2 o bs := by rw [eQ2]; exact imC_o1 (by omega) (by omega) (imC_o1 (o := o) (by omega) (by omega) iQ1)
  have cQ2 : Q2.1 o 6 = nI (0 + 1 + 1) := by rw [eQ2]; exact (p1_other (by omega)).trans (p1_same _ _ _ _)
  have sQ2 : Q2.2 = M.2 := by rw [eQ2]; exact sQ1
  have fQ2 : ∀ q j, q ≠ t → ¬ (q = o ∧ j = 6) → Q2.1 q j = M.1 q j := fun q j a b => by rw [eQ2]; exact (p1_other a).trans ((p6_fr q j b).trans (fQ1 q j a b))
  have nQ2_0 : Q2.1 t 0 = nI (A.1 0) := by rw [eQ2]; exact (p1_at (by decide)).trans ((p1_other (by omega)).trans (nQ1_0))
  have nQ2_1 : Q2.1 t 1 = nI (A.1 1) := by rw [eQ2]; exact p1_same _ _ _ _
  clear eQ2
  refine fm_aload_n hc d_Ms_unpack_21 rfl rfl ?_
  refine fm_aload_n hc d_Ms_unpack_22 rfl rfl ?_
  refine fm_callV (av := []) (rest := [.ref t]) (ob := o) (ci := 9) (r0 := ("AgentNet$Message", F_Ms, 8)) (y := y_Ms_take) (bytes := b_Ms_take) hc fm_T0_good (fm_EX_st b x) hex q_868 q_3 q_865 q_867 qs_Ms_take pd_Ms_take (by omega) (by omega) hL.2.2.2.1 (by decide) rfl rfl (c_take (M := Q2) (v := A.1 2) (c0 := 0 + 1 + 1) (bs := bs) hL (by rw [sQ2]; exact hp7) iQ2 hb h2 cQ2 b2) ⟨rfl, rfl, Nat.le_of_ble_eq_true rfl, Nat.le_of_ble_eq_true rfl⟩ ⟨Nat.le_of_ble_eq_true rfl, Nat.le_of_ble_eq_true rfl⟩ d_Ms_unpack_23 (Nat.le_of_ble_eq_true rfl) (fun r n2 M2 hp => ?_)
  obtain ⟨rfl, hq1, hq2⟩ := hp
  replace hq1 := hq1.symm
  replace hq2 := hq2.symm
  subst hq1 hq2
  refine fm_cnt (z' := (0, 0)) rfl (fm_st (st' := [.int (nI (A.1 2)), .ref t]) rfl ?_)
  refine fm_putI (k := 2) (v := nI (A.1 2)) hc K_Tr d_Ms_unpack_26 q_182 rfl (by omega) (by omega) hT.2.2.1 (by decide) (by decide) rfl rfl rfl rfl ?_
  refine fm_nm (fun Q3 eQ3 => ?_)
  have iQ3 : im_C Q3 o bs := by rw [eQ3]; exact imC_o1 (by omega) (by omega) (imC_o1 (o := o) (by omega) (by omega) iQ2)
  have cQ3 : Q3.1 o 6 = nI (0 + 1 + 1 + 1) := by rw [eQ3]; exact (p1_other (by omega)).trans (p1_same _ _ _ _)
  have sQ3 : Q3.2 = M.2 := by rw [eQ3]; exact sQ2
  have fQ3 : ∀ q j, q ≠ t → ¬ (q = o ∧ j = 6) → Q3.1 q j = M.1 q j := fun q j a b => by rw [eQ3]; exact (p1_other a).trans ((p6_fr q j b).trans (fQ2 q j a b))
  have nQ3_0 : Q3.1 t 0 = nI (A.1 0) := by rw [eQ3]; exact (p1_at (by decide)).trans ((p1_other (by omega)).trans (nQ2_0))
  have nQ3_1 : Q3.1 t 1 = nI (A.1 1) := by rw [eQ3]; exact (p1_at (by decide)).trans ((p1_other (by omega)).trans (nQ2_1))
  have nQ3_2 : Q3.1 t 2 = nI (A.1 2) := by rw [eQ3]; exact p1_same _ _ _ _
  clear eQ3
  refine fm_aload_n hc d_Ms_unpack_29 rfl rfl ?_
  refine fm_aload_n hc d_Ms_unpack_30 rfl rfl ?_
  refine fm_callV (av := []) (rest := [.ref t]) (ob := o) (ci := 9) (r0 := ("AgentNet$Message", F_Ms, 8)) (y := y_Ms_take) (bytes := b_Ms_take) hc fm_T0_good (fm_EX_st b x) hex q_868 q_3 q_865 q_867 qs_Ms_take pd_Ms_take (by omega) (by omega) hL.2.2.2.1 (by decide) rfl rfl (c_take (M := Q3) (v := A.1 4) (c0 := 0 + 1 + 1 + 1) (bs := bs) hL (by rw [sQ3]; exact hp7) iQ3 hb h2 cQ3 b3) ⟨rfl, rfl, Nat.le_of_ble_eq_true rfl, Nat.le_of_ble_eq_true rfl⟩ ⟨Nat.le_of_ble_eq_true rfl, Nat.le_of_ble_eq_true rfl⟩ d_Ms_unpack_31 (Nat.le_of_ble_eq_true rfl) (fun r n2 M2 hp => ?_)
  obtain ⟨rfl, hq1, hq2⟩ := hp
  replace hq1 := hq1.symm
  replace hq2 := hq2.symm
  subst hq1 hq2
  refine fm_cnt (z' := (0, 0)) rfl (fm_st (st' := [.int (nI (A.1 4)), .ref t]) rfl ?_)
  refine fm_putI (k := 4) (v := nI (A.1 4)) hc K_Tr d_Ms_unpack_34 q_190 rfl (by omega) (by omega) hT.2.2.1 (by decide) (by decide) rfl rfl rfl rfl ?_
  refine fm_nm (fun Q4 eQ4 => ?_)
  have iQ4 : im_C Q4 o bs := by rw [eQ4]; exact imC_o1 (by omega) (by omega) (imC_o1 (o := o) (by omega) (by omega) iQ3)
  have cQ4 : Q4.1 o 6 = nI (0 + 1 + 1 + 1 + 1) := by rw [eQ4]; exact (p1_other (by omega)).trans (p1_same _ _ _ _)
  have sQ4 : Q4.2 = M.2 := by rw [eQ4]; exact sQ3
  have fQ4 : ∀ q j, q ≠ t → ¬ (q = o ∧ j = 6) → Q4.1 q j = M.1 q j := fun q j a b => by rw [eQ4]; exact (p1_other a).trans ((p6_fr q j b).trans (fQ3 q j a b))
  have nQ4_0 : Q4.1 t 0 = nI (A.1 0) := by rw [eQ4]; exact (p1_at (by decide)).trans ((p1_other (by omega)).trans (nQ3_0))
  have nQ4_1 : Q4.1 t 1 = nI (A.1 1) := by rw [eQ4]; exact (p1_at (by decide)).trans ((p1_other (by omega)).trans (nQ3_1))
  have nQ4_2 : Q4.1 t 2 = nI (A.1 2) := by rw [eQ4]; exact (p1_at (by decide)).trans ((p1_other (by omega)).trans (nQ3_2))
  have nQ4_4 : Q4.1 t 4 = nI (A.1 4) := by rw [eQ4]; exact p1_same _ _ _ _
  clear eQ4
  refine fm_aload_n hc d_Ms_unpack_37 rfl rfl ?_
  refine fm_aload_n hc d_Ms_unpack_38 rfl rfl ?_
  refine fm_callV (av := []) (rest := [.ref t]) (ob := o) (ci := 9) (r0 := ("AgentNet$Message", F_Ms, 8)) (y := y_Ms_take) (bytes := b_Ms_take) hc fm_T0_good (fm_EX_st b x) hex q_868 q_3 q_865 q_867 qs_Ms_take pd_Ms_take (by omega) (by omega) hL.2.2.2.1 (by decide) rfl rfl (c_take (M := Q4) (v := A.1 5) (c0 := 0 + 1 + 1 + 1 + 1) (bs := bs) hL (by rw [sQ4]; exact hp7) iQ4 hb h2 cQ4 b4) ⟨rfl, rfl, Nat.le_of_ble_eq_true rfl, Nat.le_of_ble_eq_true rfl⟩ ⟨Nat.le_of_ble_eq_true rfl, Nat.le_of_ble_eq_true rfl⟩ d_Ms_unpack_39 (Nat.le_of_ble_eq_true rfl) (fun r n2 M2 hp => ?_)
  obtain ⟨rfl, hq1, hq2⟩ := hp
  replace hq1 := hq1.symm
  replace hq2 := hq2.symm
  subst hq1 hq2
  refine fm_cnt (z' := (0, 0)) rfl (fm_st (st' := [.int (nI (A.1 5)), .ref t]) rfl ?_)
  refine fm_putI (k := 5) (v := nI (A.1 5)) hc K_Tr d_Ms_unpack_42 q_196 rfl (by omega) (by omega) hT.2.2.1 (by decide) (by decide) rfl rfl rfl rfl ?_
  refine fm_nm (fun Q5 eQ5 => ?_)
  have iQ5 : im_C Q5 o bs := by rw [eQ5]; exact imC_o1 (by omega) (by omega) (imC_o1 (o := o) (by omega) (by omega) iQ4)
  have cQ5 : Q5.1 o 6 = nI (0 + 1 + 1 + 1 + 1 + 1) := by rw [eQ5]; exact (p1_other (by omega)).trans (p1_same _ _ _ _)
  have sQ5 : Q5.2 = M.2 := by rw [eQ5]; exact sQ4
  have fQ5 : ∀ q j, q ≠ t → ¬ (q = o ∧ j = 6) → Q5.1 q j = M.1 q j := fun q j a b => by rw [eQ5]; exact (p1_other a).trans ((p6_fr q j b).trans (fQ4 q j a b))
  have nQ5_0 : Q5.1 t 0 = nI (A.1 0) := by rw [eQ5]; exact (p1_at (by decide)).trans ((p1_other (by omega)).trans (nQ4_0))
  have nQ5_1 : Q5.1 t 1 = nI (A.1 1) := by rw [eQ5]; exact (p1_at (by decide)).trans ((p1_other (by omega)).trans (nQ4_1))
  have nQ5_2 : Q5.1 t 2 = nI (A.1 2) := by rw [eQ5]; exact (p1_at (by decide)).trans ((p1_other (by omega)).trans (nQ4_2))
  have nQ5_4 : Q5.1 t 4 = nI (A.1 4) := by rw [eQ5]; exact (p1_at (by decide)).trans ((p1_other (by omega)).trans (nQ4_4))
  have nQ5_5 : Q5.1 t 5 = nI (A.1 5) := by rw [eQ5]; exact p1_same _ _ _ _
  clear eQ5
  refine fm_aload_n hc d_Ms_unpack_45 rfl rfl ?_
  refine fm_aload_n hc d_Ms_unpack_46 rfl rfl ?_
  refine fm_callV (av := []) (rest := [.ref t]) (ob := o) (ci := 9) (r0 := ("AgentNet$Message", F_Ms, 8)) (y := y_Ms_take) (bytes := b_Ms_take) hc fm_T0_good (fm_EX_st b x) hex q_868 q_3 q_865 q_867 qs_Ms_take pd_Ms_take (by omega) (by omega) hL.2.2.2.1 (by decide) rfl rfl (c_take (M := Q5) (v := A.1 6) (c0 := 0 + 1 + 1 + 1 + 1 + 1) (bs := bs) hL (by rw [sQ5]; exact hp7) iQ5 hb h2 cQ5 b5) ⟨rfl, rfl, Nat.le_of_ble_eq_true rfl, Nat.le_of_ble_eq_true rfl⟩ ⟨Nat.le_of_ble_eq_true rfl, Nat.le_of_ble_eq_true rfl⟩ d_Ms_unpack_47 (Nat.le_of_ble_eq_true rfl) (fun r n2 M2 hp => ?_)
  obtain ⟨rfl, hq1, hq2⟩ := hp
  replace hq1 := hq1.symm
  replace hq2 := hq2.symm
  subst hq1 hq2
  refine fm_cnt (z' := (0, 0)) rfl (fm_st (st' := [.int (nI (A.1 6)), .ref t]) rfl ?_)
  refine fm_putI (k := 6) (v := nI (A.1 6)) hc K_Tr d_Ms_unpack_50 q_200 rfl (by omega) (by omega) hT.2.2.1 (by decide) (by decide) rfl rfl rfl rfl ?_
  refine fm_nm (fun Q6 eQ6 => ?_)
  have iQ6 : im_C Q6 o bs := by rw [eQ6]; exact imC_o1 (by omega) (by omega) (imC_o1 (o := o) (by omega) (by omega) iQ5)
  have cQ6 : Q6.1 o 6 = nI (0 + 1 + 1 + 1 + 1 + 1 + 1) := by rw [eQ6]; exact (p1_other (by omega)).trans (p1_same _ _ _ _)
  have sQ6 : Q6.2 = M.2 := by rw [eQ6]; exact sQ5
  have fQ6 : ∀ q j, q ≠ t → ¬ (q = o ∧ j = 6) → Q6.1 q j = M.1 q j := fun q j a b => by rw [eQ6]; exact (p1_other a).trans ((p6_fr q j b).trans (fQ5 q j a b))
  have nQ6_0 : Q6.1 t 0 = nI (A.1 0) := by rw [eQ6]; exact (p1_at (by decide)).trans ((p1_other (by omega)).trans (nQ5_0))
  have nQ6_1 : Q6.1 t 1 = nI (A.1 1) := by rw [eQ6]; exact (p1_at (by decide)).trans ((p1_other (by omega)).trans (nQ5_1))
  have nQ6_2 : Q6.1 t 2 = nI (A.1 2) := by rw [eQ6]; exact (p1_at (by decide)).trans ((p1_other (by omega)).trans (nQ5_2))
  have nQ6_4 : Q6.1 t 4 = nI (A.1 4) := by rw [eQ6]; exact (p1_at (by decide)).trans ((p1_other (by omega)).trans (nQ5_4))
  have nQ6_5 : Q6.1 t 5 = nI (A.1 5) := by rw [eQ6]; exact (p1_at (by decide)).trans ((p1_other (by omega)).trans (nQ5_5))
  have nQ6_6 : Q6.1 t 6 = nI (A.1 6) := by rw [eQ6]; exact p1_same _ _ _ _
  clear eQ6
  refine fm_aload_n hc d_Ms_unpack_53 rfl rfl ?_
  refine fm_aload_n hc d_Ms_unpack_54 rfl rfl ?_
  refine fm_callV (av := []) (rest := [.ref t]) (ob := o) (ci := 9) (r0 := ("AgentNet$Message", F_Ms, 8)) (y := y_Ms_take) (bytes := b_Ms_take) hc fm_T0_good (fm_EX_st b x) hex q_868 q_3 q_865 q_867 qs_Ms_take pd_Ms_take (by omega) (by omega) hL.2.2.2.1 (by decide) rfl rfl (c_take (M := Q6) (v := A.1 7) (c0 := 0 + 1 + 1 + 1 + 1 + 1 + 1) (bs := bs) hL (by rw [sQ6]; exact hp7) iQ6 hb h2 cQ6 b6) ⟨rfl, rfl, Nat.le_of_ble_eq_true rfl, Nat.le_of_ble_eq_true rfl⟩ ⟨Nat.le_of_ble_eq_true rfl, Nat.le_of_ble_eq_true rfl⟩ d_Ms_unpack_55 (Nat.le_of_ble_eq_true rfl) (fun r n2 M2 hp => ?_)
  obtain ⟨rfl, hq1, hq2⟩ := hp
  replace hq1 := hq1.symm
  replace hq2 := hq2.symm
  subst hq1 hq2
  refine fm_cnt (z' := (0, 0)) rfl (fm_st (st' := [.int (nI (A.1 7)), .ref t]) rfl ?_)
  refine fm_join (pc2 := 67) (lv2 := [(0, .ref o), (1, .ref t)]) (st2 := [.int (nI (A.1 7)), .ref t]) (I := fun M' => M' = fm_put1 Q6 o 6 (nI (0 + 1 + 1 + 1 + 1 + 1 + 1 + 1))) (fun M' hI => ?_) (fun J => ?_)
  · subst hI
    refine fm_putI (k := 7) (v := nI (A.1 7)) hc K_Tr d_Ms_unpack_67 q_206 rfl (by omega) (by omega) hT.2.2.1 (by decide) (by decide) rfl rfl (by rcases (show A.1 7 = 0 ∨ A.1 7 = 1 by omega) with e | e <;> rw [e] <;> rfl) (by rcases (show A.1 7 = 0 ∨ A.1 7 = 1 by omega) with e | e <;> rw [e] <;> rfl) ?_
    refine fm_nm (fun Q7 eQ7 => ?_)
    have iQ7 : im_C Q7 o bs := by rw [eQ7]; exact imC_o1 (by omega) (by omega) (imC_o1 (o := o) (by omega) (by omega) iQ6)
    have cQ7 : Q7.1 o 6 = nI (0 + 1 + 1 + 1 + 1 + 1 + 1 + 1) := by rw [eQ7]; exact (p1_other (by omega)).trans (p1_same _ _ _ _)
    have sQ7 : Q7.2 = M.2 := by rw [eQ7]; exact sQ6
    have fQ7 : ∀ q j, q ≠ t → ¬ (q = o ∧ j = 6) → Q7.1 q j = M.1 q j := fun q j a b => by rw [eQ7]; exact (p1_other a).trans ((p6_fr q j b).trans (fQ6 q j a b))
    have nQ7_0 : Q7.1 t 0 = nI (A.1 0) := by rw [eQ7]; exact (p1_at (by decide)).trans ((p1_other (by omega)).trans (nQ6_0))
    have nQ7_1 : Q7.1 t 1 = nI (A.1 1) := by rw [eQ7]; exact (p1_at (by decide)).trans ((p1_other (by omega)).trans (nQ6_1))
    have nQ7_2 : Q7.1 t 2 = nI (A.1 2) := by rw [eQ7]; exact (p1_at (by decide)).trans ((p1_other (by omega)).trans (nQ6_2))
    have nQ7_4 : Q7.1 t 4 = nI (A.1 4) := by rw [eQ7]; exact (p1_at (by decide)).trans ((p1_other (by omega)).trans (nQ6_4))
    have nQ7_5 : Q7.1 t 5 = nI (A.1 5) := by rw [eQ7]; exact (p1_at (by decide)).trans ((p1_other (by omega)).trans (nQ6_5))
    have nQ7_6 : Q7.1 t 6 = nI (A.1 6) := by rw [eQ7]; exact (p1_at (by decide)).trans ((p1_other (by omega)).trans (nQ6_6))
    have nQ7_7 : Q7.1 t 7 = nI (A.1 7) := by rw [eQ7]; exact p1_same _ _ _ _
    clear eQ7
    refine fm_aload_n hc d_Ms_unpack_70 rfl rfl ?_
    refine fm_aload_n hc d_Ms_unpack_71 rfl rfl ?_
    refine fm_callV (av := []) (rest := [.ref t]) (ob := o) (ci := 9) (r0 := ("AgentNet$Message", F_Ms, 8)) (y := y_Ms_take) (bytes := b_Ms_take) hc fm_T0_good (fm_EX_st b x) hex q_868 q_3 q_865 q_867 qs_Ms_take pd_Ms_take (by omega) (by omega) hL.2.2.2.1 (by decide) rfl rfl (c_take (M := Q7) (v := 0) (c0 := 0 + 1 + 1 + 1 + 1 + 1 + 1 + 1) (bs := bs) hL (by rw [sQ7]; exact hp7) iQ7 hb h2 cQ7 b7) ⟨rfl, rfl, Nat.le_of_ble_eq_true rfl, Nat.le_of_ble_eq_true rfl⟩ ⟨Nat.le_of_ble_eq_true rfl, Nat.le_of_ble_eq_true rfl⟩ d_Ms_unpack_72 (Nat.le_of_ble_eq_true rfl) (fun r n2 M2 hp => ?_)
    obtain ⟨rfl, hq1, hq2⟩ := hp
    replace hq1 := hq1.symm
    replace hq2 := hq2.symm
    subst hq1 hq2
    refine fm_cnt (z' := (0, 0)) rfl (fm_st (st' := [.int (nI 0), .ref t]) rfl ?_)
    refine fm_bipush (v := nI 8) hc d_Ms_unpack_75 rfl ?_
    refine fm_ishl hc d_Ms_unpack_77 ?_
    refine fm_top (congrArg Value.int (show (nI 0) <<< (nI 8 &&& 31) = nI 0 from (by decide))) ?_
    refine fm_putI (k := 3) (v := nI 0) hc K_Tr d_Ms_unpack_78 q_186 rfl (by omega) (by omega) hT.2.2.1 (by decide) (by decide) rfl rfl rfl rfl ?_
    refine fm_nm (fun Q8 eQ8 => ?_)
    have iQ8 : im_C Q8 o bs := by rw [eQ8]; exact imC_o1 (by omega) (by omega) (imC_o1 (o := o) (by omega) (by omega) iQ7)
    have cQ8 : Q8.1 o 6 = nI (0 + 1 + 1 + 1 + 1 + 1 + 1 + 1 + 1) := by rw [eQ8]; exact (p1_other (by omega)).trans (p1_same _ _ _ _)
    have sQ8 : Q8.2 = M.2 := by rw [eQ8]; exact sQ7
    have fQ8 : ∀ q j, q ≠ t → ¬ (q = o ∧ j = 6) → Q8.1 q j = M.1 q j := fun q j a b => by rw [eQ8]; exact (p1_other a).trans ((p6_fr q j b).trans (fQ7 q j a b))
    have nQ8_0 : Q8.1 t 0 = nI (A.1 0) := by rw [eQ8]; exact (p1_at (by decide)).trans ((p1_other (by omega)).trans (nQ7_0))
    have nQ8_1 : Q8.1 t 1 = nI (A.1 1) := by rw [eQ8]; exact (p1_at (by decide)).trans ((p1_other (by omega)).trans (nQ7_1))
    have nQ8_2 : Q8.1 t 2 = nI (A.1 2) := by rw [eQ8]; exact (p1_at (by decide)).trans ((p1_other (by omega)).trans (nQ7_2))
    have nQ8_4 : Q8.1 t 4 = nI (A.1 4) := by rw [eQ8]; exact (p1_at (by decide)).trans ((p1_other (by omega)).trans (nQ7_4))
    have nQ8_5 : Q8.1 t 5 = nI (A.1 5) := by rw [eQ8]; exact (p1_at (by decide)).trans ((p1_other (by omega)).trans (nQ7_5))
    have nQ8_6 : Q8.1 t 6 = nI (A.1 6) := by rw [eQ8]; exact (p1_at (by decide)).trans ((p1_other (by omega)).trans (nQ7_6))
    have nQ8_7 : Q8.1 t 7 = nI (A.1 7) := by rw [eQ8]; exact (p1_at (by decide)).trans ((p1_other (by omega)).trans (nQ7_7))
    have nQ8_3 : Q8.1 t 3 = nI (0) := by rw [eQ8]; exact p1_same _ _ _ _
    clear eQ8
    refine fm_aload_n hc d_Ms_unpack_81 rfl rfl ?_
    refine fm_dup hc d_Ms_unpack_82 rfl ?_
    refine fm_getI (k := 3) hc K_Tr d_Ms_unpack_83 q_186 rfl (by omega) (by omega) hT.2.2.1 (by decide) (by decide) rfl ?_
    refine fm_top (congrArg Value.int (show Q8.1 t 3 = nI 0 from nQ8_3)) ?_
    refine fm_aload_n hc d_Ms_unpack_86 rfl rfl ?_
    refine fm_callV (av := []) (rest := [.int (nI 0), .ref t]) (ob := o) (ci := 9) (r0 := ("AgentNet$Message", F_Ms, 8)) (y := y_Ms_take) (bytes := b_Ms_take) hc fm_T0_good (fm_EX_st b x) hex q_868 q_3 q_865 q_867 qs_Ms_take pd_Ms_take (by omega) (by omega) hL.2.2.2.1 (by decide) rfl rfl (c_take (M := Q8) (v := A.1 3) (c0 := 0 + 1 + 1 + 1 + 1 + 1 + 1 + 1 + 1) (bs := bs) hL (by rw [sQ8]; exact hp7) iQ8 hb h2 cQ8 b8) ⟨rfl, rfl, Nat.le_of_ble_eq_true rfl, Nat.le_of_ble_eq_true rfl⟩ ⟨Nat.le_of_ble_eq_true rfl, Nat.le_of_ble_eq_true rfl⟩ d_Ms_unpack_87 (Nat.le_of_ble_eq_true rfl) (fun r n2 M2 hp => ?_)
    obtain ⟨rfl, hq1, hq2⟩ := hp
    replace hq1 := hq1.symm
    replace hq2 := hq2.symm
    subst hq1 hq2
    refine fm_cnt (z' := (0, 0)) rfl (fm_st (st' := [.int (nI (A.1 3)), .int (nI 0), .ref t]) rfl ?_)
    refine fm_ior hc d_Ms_unpack_90 ?_
    refine fm_top (congrArg Value.int (show (nI 0) ||| (nI (A.1 3)) = nI (A.1 3) from (or_0 _ (by omega)))) ?_
    refine fm_putI (k := 3) (v := nI (A.1 3)) hc K_Tr d_Ms_unpack_91 q_186 rfl (by omega) (by omega) hT.2.2.1 (by decide) (by decide) rfl rfl rfl rfl ?_
    refine fm_nm (fun Q9 eQ9 => ?_)
    have iQ9 : im_C Q9 o bs := by rw [eQ9]; exact imC_o1 (by omega) (by omega) (imC_o1 (o := o) (by omega) (by omega) iQ8)
    have cQ9 : Q9.1 o 6 = nI (0 + 1 + 1 + 1 + 1 + 1 + 1 + 1 + 1 + 1) := by rw [eQ9]; exact (p1_other (by omega)).trans (p1_same _ _ _ _)
    have sQ9 : Q9.2 = M.2 := by rw [eQ9]; exact sQ8
    have fQ9 : ∀ q j, q ≠ t → ¬ (q = o ∧ j = 6) → Q9.1 q j = M.1 q j := fun q j a b => by rw [eQ9]; exact (p1_other a).trans ((p6_fr q j b).trans (fQ8 q j a b))
    have nQ9_0 : Q9.1 t 0 = nI (A.1 0) := by rw [eQ9]; exact (p1_at (by decide)).trans ((p1_other (by omega)).trans (nQ8_0))
    have nQ9_1 : Q9.1 t 1 = nI (A.1 1) := by rw [eQ9]; exact (p1_at (by decide)).trans ((p1_other (by omega)).trans (nQ8_1))
    have nQ9_2 : Q9.1 t 2 = nI (A.1 2) := by rw [eQ9]; exact (p1_at (by decide)).trans ((p1_other (by omega)).trans (nQ8_2))
    have nQ9_4 : Q9.1 t 4 = nI (A.1 4) := by rw [eQ9]; exact (p1_at (by decide)).trans ((p1_other (by omega)).trans (nQ8_4))
    have nQ9_5 : Q9.1 t 5 = nI (A.1 5) := by rw [eQ9]; exact (p1_at (by decide)).trans ((p1_other (by omega)).trans (nQ8_5))
    have nQ9_6 : Q9.1 t 6 = nI (A.1 6) := by rw [eQ9]; exact (p1_at (by decide)).trans ((p1_other (by omega)).trans (nQ8_6))
    have nQ9_7 : Q9.1 t 7 = nI (A.1 7) := by rw [eQ9]; exact (p1_at (by decide)).trans ((p1_other (by omega)).trans (nQ8_7))
    have nQ9_3 : Q9.1 t 3 = nI (A.1 3) := by rw [eQ9]; exact p1_same _ _ _ _
    clear eQ9
    refine fm_aload_n hc d_Ms_unpack_94 rfl rfl ?_
    refine fm_aload_n hc d_Ms_unpack_95 rfl rfl ?_
    refine fm_callV (av := []) (rest := [.ref t]) (ob := o) (ci := 9) (r0 := ("AgentNet$Message", F_Ms, 8)) (y := y_Ms_take) (bytes := b_Ms_take) hc fm_T0_good (fm_EX_st b x) hex q_868 q_3 q_865 q_867 qs_Ms_take pd_Ms_take (by omega) (by omega) hL.2.2.2.1 (by decide) rfl rfl (c_take (M := Q9) (v := A.2.1.length) (c0 := 0 + 1 + 1 + 1 + 1 + 1 + 1 + 1 + 1 + 1) (bs := bs) hL (by rw [sQ9]; exact hp7) iQ9 hb h2 cQ9 b9) ⟨rfl, rfl, Nat.le_of_ble_eq_true rfl, Nat.le_of_ble_eq_true rfl⟩ ⟨Nat.le_of_ble_eq_true rfl, Nat.le_of_ble_eq_true rfl⟩ d_Ms_unpack_96 (Nat.le_of_ble_eq_true rfl) (fun r n2 M2 hp => ?_)
    obtain ⟨rfl, hq1, hq2⟩ := hp
    replace hq1 := hq1.symm
    replace hq2 := hq2.symm
    subst hq1 hq2
    refine fm_cnt (z' := (0, 0)) rfl (fm_st (st' := [.int (nI A.2.1.length), .ref t]) rfl ?_)
    refine fm_bipush (v := nI 6) hc d_Ms_unpack_99 rfl ?_
    refine fm_mmin hc q_869 q_782 q_19 q_min d_Ms_unpack_101 (Nat.le_of_ble_eq_true rfl) (Nat.le_of_ble_eq_true rfl) (Nat.le_of_ble_eq_true rfl) (Nat.le_of_ble_eq_true rfl) ?_
    refine fm_top (congrArg Value.int (if_neg (hnlt (a := 6) (c := A.2.1.length) (by omega) (by omega)))) ?_
    refine fm_putI (k := 8) (v := nI A.2.1.length) hc K_Tr d_Ms_unpack_104 q_211 rfl (by omega) (by omega) hT.2.2.1 (by decide) (by decide) rfl rfl rfl rfl ?_
    refine fm_nm (fun Q10 eQ10 => ?_)
    have iQ10 : im_C Q10 o bs := by rw [eQ10]; exact imC_o1 (by omega) (by omega) (imC_o1 (o := o) (by omega) (by omega) iQ9)
    have cQ10 : Q10.1 o 6 = nI (0 + 1 + 1 + 1 + 1 + 1 + 1 + 1 + 1 + 1 + 1) := by rw [eQ10]; exact (p1_other (by omega)).trans (p1_same _ _ _ _)
    have sQ10 : Q10.2 = M.2 := by rw [eQ10]; exact sQ9
    have fQ10 : ∀ q j, q ≠ t → ¬ (q = o ∧ j = 6) → Q10.1 q j = M.1 q j := fun q j a b => by rw [eQ10]; exact (p1_other a).trans ((p6_fr q j b).trans (fQ9 q j a b))
    have nQ10_0 : Q10.1 t 0 = nI (A.1 0) := by rw [eQ10]; exact (p1_at (by decide)).trans ((p1_other (by omega)).trans (nQ9_0))
    have nQ10_1 : Q10.1 t 1 = nI (A.1 1) := by rw [eQ10]; exact (p1_at (by decide)).trans ((p1_other (by omega)).trans (nQ9_1))
    have nQ10_2 : Q10.1 t 2 = nI (A.1 2) := by rw [eQ10]; exact (p1_at (by decide)).trans ((p1_other (by omega)).trans (nQ9_2))
    have nQ10_4 : Q10.1 t 4 = nI (A.1 4) := by rw [eQ10]; exact (p1_at (by decide)).trans ((p1_other (by omega)).trans (nQ9_4))
    have nQ10_5 : Q10.1 t 5 = nI (A.1 5) := by rw [eQ10]; exact (p1_at (by decide)).trans ((p1_other (by omega)).trans (nQ9_5))
    have nQ10_6 : Q10.1 t 6 = nI (A.1 6) := by rw [eQ10]; exact (p1_at (by decide)).trans ((p1_other (by omega)).trans (nQ9_6))
    have nQ10_7 : Q10.1 t 7 = nI (A.1 7) := by rw [eQ10]; exact (p1_at (by decide)).trans ((p1_other (by omega)).trans (nQ9_7))
    have nQ10_3 : Q10.1 t 3 = nI (A.1 3) := by rw [eQ10]; exact (p1_at (by decide)).trans ((p1_other (by omega)).trans (nQ9_3))
    have nQ10_8 : Q10.1 t 8 = nI (A.2.1.length) := by rw [eQ10]; exact p1_same _ _ _ _
    clear eQ10
    refine fm_iconst (v := nI 0) hc d_Ms_unpack_107 rfl ?_
    refine fm_istore_n (lv' := [(2, .int (nI 0)), (0, .ref o), (1, .ref t)]) hc d_Ms_unpack_108 rfl (by decide) rfl ?_
    refine fm_loopI (N := A.2.1.length) (lv := fun k => [(2, .int (nI k)), (0, .ref o), (1, .ref t)]) (I := fun k M' => im_C M' o bs ∧ M'.1 o 6 = nI (10 + ((A.2.1.take k).flatMap im_V).length) ∧ (∀ i v, i < k → A.2.1[i]? = some v → M'.2.1 (t + 1) i = e64 v) ∧ M'.2.2 = M.2.2 ∧ (∀ q j, ¬ (q = o ∧ j = 6) → M'.1 q j = Q10.1 q j) ∧ (∀ q, q ≠ t + 1 → M'.2.1 q = M.2.1 q)) (fun k Mk hk hI ih => ?_) (fun Mk hI => ?_) ⟨iQ10, cQ10, fun i v hi => absurd hi (Nat.not_lt_zero i), by rw [sQ10], fun _ _ _ => rfl, fun q _ => by rw [sQ10]⟩
    · obtain ⟨l1, l2, l3, l4, l5, l6⟩ := hI
      have qk : tr_P Mk t := by unfold tr_P; rw [l4]; exact hq
      have k7 : Mk.2.2 o 7 = some (o + 1) := by rw [l4]; exact hp7
      obtain ⟨v, hv⟩ : ∃ v, A.2.1[k]? = some v := ⟨_, List.getElem?_eq_getElem hk⟩
      have hvat := imA_fl hS hv
      refine fm_iload_n hc d_Ms_unpack_109 rfl rfl ?_
      refine fm_aload_n hc d_Ms_unpack_110 rfl rfl ?_
      refine fm_getI (k := 8) hc K_Tr d_Ms_unpack_111 q_211 rfl (by omega) (by omega) hT.2.2.1 (by decide) (by decide) rfl ?_
      refine fm_top (congrArg Value.int (show Mk.1 t 8 = nI A.2.1.length from ((l5 t 8 (by omega)).trans nQ10_8))) ?_
      refine fm_icmp_ge (tgt := 133) hc d_Ms_unpack_114 rfl (fun gQ => absurd gQ (hnle (a := A.2.1.length) (c := k) hk (by omega))) (fun _ => ?_)
      refine fm_aload_n hc d_Ms_unpack_117 rfl rfl ?_
      refine fm_getR (k := 10) (q := t + 1) hc K_Tr d_Ms_unpack_118 q_219 rfl (by omega) (by omega) hT.2.2.1 (by decide) (by decide) rfl qk.1 ?_
      refine fm_iload_n hc d_Ms_unpack_121 rfl rfl ?_
      refine fm_aload_n hc d_Ms_unpack_122 rfl rfl ?_
      refine fm_callV (av := []) (rest := [.int (nI k), .ref (t + 1)]) (ob := o) (ci := 9) (r0 := ("AgentNet$Message", F_Ms, 8)) (y := y_Ms_takeValue) (bytes := b_Ms_takeValue) hc fm_T0_good (fm_EX_st b x) hex q_873 q_3 q_870 q_872 qs_Ms_takeValue pd_Ms_takeValue (by omega) (by omega) hL.2.2.2.1 (by decide) rfl rfl (c_takeV (v := v) hL k7 l1 hb h2 l2 hvat) ⟨rfl, rfl, Nat.le_of_ble_eq_true rfl, Nat.le_of_ble_eq_true rfl⟩ ⟨Nat.le_of_ble_eq_true rfl, Nat.le_of_ble_eq_true rfl⟩ d_Ms_unpack_123 (Nat.le_of_ble_eq_true rfl) (fun r n2 M2 hp => ?_)
      obtain ⟨rfl, hq1, r1, r2, r3⟩ := hp
      replace hq1 := hq1.symm
      subst hq1
      revert r1 r2 r3
      generalize M2 = Ma
      intro r1 r2 r3
      refine fm_cnt (z' := (0, 0)) rfl (fm_st (st' := [.long (e64 v), .int (nI k), .ref (t + 1)]) rfl ?_)
      refine fm_last (j := k) (len := 6) (v := e64 v) hc 3 d_Ms_unpack_126 (by omega) (by omega) hT.2.2.2.1 rfl (by omega) (by decide) ?_
      refine fm_iinc (v := nI (k + 1)) (lv' := [(2, .int (nI (k + 1))), (0, .ref o), (1, .ref t)]) hc d_Ms_unpack_127 rfl (nI_1 k) (by decide) rfl ?_
      refine fm_goto (tgt := 109) hc d_Ms_unpack_130 rfl ?_
      refine fm_dropl (lv' := [(2, .int (nI (k + 1))), (0, .ref o), (1, .ref t)]) (by simp) ?_
      refine ih _ ⟨imC_fr (fun q j a => r3 q j a) l1, ?_, fun i u hi hu => ?_, by rw [show (fm_put2 Ma (t + 1) k (e64 v)).2.2 = Ma.2.2 from rfl, r2]; exact l4, fun q j a => (r3 q j a).trans (l5 q j a), fun q a => ?_⟩
      · show Ma.1 o 6 = _
        rw [r1, fl_take hv, List.length_append, Nat.add_assoc]
      · by_cases e : i = k
        · subst e
          rw [p2_same]
          rw [hv] at hu
          exact congrArg e64 (Option.some.inj hu)
        · rw [p2_at e, r2]
          exact l3 i u (by omega) hu
      · rw [show (fm_put2 Ma (t + 1) k (e64 v)).2.1 q = Ma.2.1 q from funext fun i => p2_other a, r2]
        exact l6 q a
    · obtain ⟨l1, l2, l3, l4, l5, l6⟩ := hI
      have qk : tr_P Mk t := by unfold tr_P; rw [l4]; exact hq
      have k7 : Mk.2.2 o 7 = some (o + 1) := by rw [l4]; exact hp7
      rw [List.take_length] at l2
      have hp0 := hQ1 0 _ rfl
      rw [Nat.add_zero] at hp0
      refine fm_iload_n hc d_Ms_unpack_109 rfl rfl ?_
      refine fm_aload_n hc d_Ms_unpack_110 rfl rfl ?_
      refine fm_getI (k := 8) hc K_Tr d_Ms_unpack_111 q_211 rfl (by omega) (by omega) hT.2.2.1 (by decide) (by decide) rfl ?_
      refine fm_top (congrArg Value.int (show Mk.1 t 8 = nI A.2.1.length from ((l5 t 8 (by omega)).trans nQ10_8))) ?_
      refine fm_icmp_ge (tgt := 133) hc d_Ms_unpack_114 rfl (fun _ => ?_) (fun gQ => absurd (nI_le (Nat.le_refl _) (by omega)) gQ)
      refine fm_aload_n hc d_Ms_unpack_133 rfl rfl ?_
      refine fm_aload_n hc d_Ms_unpack_134 rfl rfl ?_
      refine fm_callV (av := []) (rest := [.ref t]) (ob := o) (ci := 9) (r0 := ("AgentNet$Message", F_Ms, 8)) (y := y_Ms_take) (bytes := b_Ms_take) hc fm_T0_good (fm_EX_st b x) hex q_868 q_3 q_865 q_867 qs_Ms_take pd_Ms_take (by omega) (by omega) hL.2.2.2.1 (by decide) rfl rfl (c_take (M := Mk) (v := A.2.2.length) (c0 := 10 + (A.2.1.flatMap im_V).length) (bs := bs) hL k7 l1 hb h2 l2 hp0) ⟨rfl, rfl, Nat.le_of_ble_eq_true rfl, Nat.le_of_ble_eq_true rfl⟩ ⟨Nat.le_of_ble_eq_true rfl, Nat.le_of_ble_eq_true rfl⟩ d_Ms_unpack_135 (Nat.le_of_ble_eq_true rfl) (fun r n2 M2 hp => ?_)
      obtain ⟨rfl, hq1, hq2⟩ := hp
      replace hq1 := hq1.symm
      replace hq2 := hq2.symm
      subst hq1 hq2
      refine fm_cnt (z' := (0, 0)) rfl (fm_st (st' := [.int (nI A.2.2.length), .ref t]) rfl ?_)
      refine fm_bipush (v := nI 8) hc d_Ms_unpack_138 rfl ?_
      refine fm_mmin hc q_869 q_782 q_19 q_min d_Ms_unpack_140 (Nat.le_of_ble_eq_true rfl) (Nat.le_of_ble_eq_true rfl) (Nat.le_of_ble_eq_true rfl) (Nat.le_of_ble_eq_true rfl) ?_
      refine fm_top (congrArg Value.int (if_neg (hnlt (a := 8) (c := A.2.2.length) (by omega) (by omega)))) ?_
      refine fm_putI (k := 9) (v := nI A.2.2.length) hc K_Tr d_Ms_unpack_143 q_214 rfl (by omega) (by omega) hT.2.2.1 (by decide) (by decide) rfl rfl rfl rfl ?_
      refine fm_iconst (v := nI 0) hc d_Ms_unpack_146 rfl ?_
      refine fm_istore_n (lv' := [(2, .int (nI 0)), (0, .ref o), (1, .ref t)]) hc d_Ms_unpack_147 rfl (by decide) rfl ?_
      refine fm_nm (fun Qz eQz => ?_)
      have z1 : im_C Qz o bs := by rw [eQz]; exact imC_o1 (by omega) (by omega) (imC_o1 (by omega) (by omega) l1)
      have z2 : Qz.1 o 6 = nI (10 + (A.2.1.flatMap im_V).length + 1) := by rw [eQz]; exact (p1_other (by omega)).trans (p1_same _ _ _ _)
      have z3 : Qz.2 = Mk.2 := by rw [eQz]; rfl
      have z4 : ∀ q j, q ≠ t → ¬ (q = o ∧ j = 6) → Qz.1 q j = Mk.1 q j := fun q j a b => by rw [eQz]; exact (p1_other a).trans (p6_fr q j b)
      have z5 : ∀ j, j ≠ 9 → Qz.1 t j = Mk.1 t j := fun j a => by rw [eQz]; exact (p1_at a).trans (p1_other (by omega))
      have z6 : Qz.1 t 9 = nI A.2.2.length := by rw [eQz]; exact p1_same _ _ _ _
      clear eQz
      have nz : ∀ j, j < 9 → Qz.1 t j = Q10.1 t j := fun j hj => (z5 j (by omega)).trans (l5 t j (by omega))
      have sz : ∀ i v, A.2.1[i]? = some v → Qz.2.1 (t + 1) i = e64 v := fun i v hv => by rw [z3]; exact l3 i v (List.getElem?_eq_some_iff.mp hv).1 hv
      have rz : Qz.2.2 = M.2.2 := by rw [z3]; exact l4
      have lz : ∀ q, q ≠ t + 1 → Qz.2.1 q = M.2.1 q := fun q a => by rw [z3]; exact l6 q a
      have fz : ∀ q j, q ≠ t → ¬ (q = o ∧ j = 6) → Qz.1 q j = M.1 q j := fun q j a b => (z4 q j a b).trans ((l5 q j b).trans (fQ10 q j a b))
      refine fm_loopI (N := A.2.2.length) (lv := fun k => [(2, .int (nI k)), (0, .ref o), (1, .ref t)]) (I := fun k M' => im_C M' o bs ∧ M'.1 o 6 = nI (10 + (A.2.1.flatMap im_V).length + 1 + ((A.2.2.take k).flatMap im_P).length) ∧ (∀ i v, i < k → A.2.2[i]? = some v → M'.2.1 (t + 2) i = e64 v.1 ∧ M'.2.1 (t + 3) i = e64 v.2) ∧ M'.2.2 = M.2.2 ∧ (∀ q j, ¬ (q = o ∧ j = 6) → M'.1 q j = Qz.1 q j) ∧ (∀ q, q ≠ t + 2 → q ≠ t + 3 → M'.2.1 q = Qz.2.1 q)) (fun k Mk hk hI ih => ?_) (fun Mk hI => ?_) ⟨z1, z2, fun i v hi => absurd hi (Nat.not_lt_zero i), rz, fun _ _ _ => rfl, fun _ _ _ => rfl⟩
      · clear l1 l2 l3 l4 l5 l6 qk k7 z3 z4 z5
        obtain ⟨l1, l2, l3, l4, l5, l6⟩ := hI
        have qk : tr_P Mk t := by unfold tr_P; rw [l4]; exact hq
        have k7 : Mk.2.2 o 7 = some (o + 1) := by rw [l4]; exact hp7
        obtain ⟨v, hv⟩ : ∃ v, A.2.2[k]? = some v := ⟨_, List.getElem?_eq_getElem hk⟩
        have hvat := imA_fl hQ2 hv
        have hv1 : im_at bs _ (im_V v.1) := imA_left hvat
        have hv2 : im_at bs _ (im_V v.2) := imA_right hvat
        refine fm_iload_n hc d_Ms_unpack_148 rfl rfl ?_
        refine fm_aload_n hc d_Ms_unpack_149 rfl rfl ?_
        refine fm_getI (k := 9) hc K_Tr d_Ms_unpack_150 q_214 rfl (by omega) (by omega) hT.2.2.1 (by decide) (by decide) rfl ?_
        refine fm_top (congrArg Value.int (show Mk.1 t 9 = nI A.2.2.length from ((l5 t 9 (by omega)).trans z6))) ?_
        refine fm_icmp_ge (tgt := 182) hc d_Ms_unpack_153 rfl (fun gQ => absurd gQ (hnle (a := A.2.2.length) (c := k) hk (by omega))) (fun _ => ?_)
        refine fm_aload_n hc d_Ms_unpack_156 rfl rfl ?_
        refine fm_getR (k := 11) (q := t + 2) hc K_Tr d_Ms_unpack_157 q_222 rfl (by omega) (by omega) hT.2.2.1 (by decide) (by decide) rfl qk.2.1 ?_
        refine fm_iload_n hc d_Ms_unpack_160 rfl rfl ?_
        refine fm_aload_n hc d_Ms_unpack_161 rfl rfl ?_
        refine fm_callV (av := []) (rest := [.int (nI k), .ref (t + 2)]) (ob := o) (ci := 9) (r0 := ("AgentNet$Message", F_Ms, 8)) (y := y_Ms_takeValue) (bytes := b_Ms_takeValue) hc fm_T0_good (fm_EX_st b x) hex q_873 q_3 q_870 q_872 qs_Ms_takeValue pd_Ms_takeValue (by omega) (by omega) hL.2.2.2.1 (by decide) rfl rfl (c_takeV (v := v.1) hL k7 l1 hb h2 l2 (by have e := hv1; rw [Nat.add_assoc] at e ⊢; exact e)) ⟨rfl, rfl, Nat.le_of_ble_eq_true rfl, Nat.le_of_ble_eq_true rfl⟩ ⟨Nat.le_of_ble_eq_true rfl, Nat.le_of_ble_eq_true rfl⟩ d_Ms_unpack_162 (Nat.le_of_ble_eq_true rfl) (fun r n2 M2 hp => ?_)
        obtain ⟨rfl, hq1, r1, r2, r3⟩ := hp
        replace hq1 := hq1.symm
        subst hq1
        revert r1 r2 r3
        generalize M2 = Ma
        intro r1 r2 r3
        have q1 := imC_fr (fun q j a => r3 q j a) l1
        refine fm_cnt (z' := (0, 0)) rfl (fm_st (st' := [.long (e64 v.1), .int (nI k), .ref (t + 2)]) rfl ?_)
        refine fm_last (j := k) (len := 8) (v := e64 v.1) hc 3 d_Ms_unpack_165 (by omega) (by omega) hT.2.2.2.2.1 rfl (by omega) (by decide) ?_
        refine fm_aload_n hc d_Ms_unpack_166 rfl rfl ?_
        refine fm_getR (k := 12) (q := t + 3) hc K_Tr d_Ms_unpack_167 q_226 rfl (by omega) (by omega) hT.2.2.1 (by decide) (by decide) rfl (show tr_P Ma t by unfold tr_P; rw [r2]; exact qk).2.2 ?_
        refine fm_iload_n hc d_Ms_unpack_170 rfl rfl ?_
        refine fm_aload_n hc d_Ms_unpack_171 rfl rfl ?_
        refine fm_callV (av := []) (rest := [.int (nI k), .ref (t + 3)]) (ob := o) (ci := 9) (r0 := ("AgentNet$Message", F_Ms, 8)) (y := y_Ms_takeValue) (bytes := b_Ms_takeValue) hc fm_T0_good (fm_EX_st b x) hex q_873 q_3 q_870 q_872 qs_Ms_takeValue pd_Ms_takeValue (by omega) (by omega) hL.2.2.2.1 (by decide) rfl rfl (c_takeV (M := fm_put2 Ma (t + 2) k (e64 v.1)) (c0 := 10 + (A.2.1.flatMap im_V).length + 1 + ((A.2.2.take k).flatMap im_P).length + (im_V v.1).length) (v := v.2) hL (by rw [show (fm_put2 Ma (t + 2) k (e64 v.1)).2.2 = Ma.2.2 from rfl, r2]; exact k7) (imC_o2 q1) hb h2 r1 (by have e := hv2; rw [Nat.add_assoc] at e ⊢; exact e)) ⟨rfl, rfl, Nat.le_of_ble_eq_true rfl, Nat.le_of_ble_eq_true rfl⟩ ⟨Nat.le_of_ble_eq_true rfl, Nat.le_of_ble_eq_true rfl⟩ d_Ms_unpack_172 (Nat.le_of_ble_eq_true rfl) (fun r n2 M2 hp => ?_)
        obtain ⟨rfl, hq1, t1, t2, t3⟩ := hp
        replace hq1 := hq1.symm
        subst hq1
        revert t1 t2 t3
        generalize M2 = Mb
        intro t1 t2 t3
        refine fm_cnt (z' := (0, 0)) rfl (fm_st (st' := [.long (e64 v.2), .int (nI k), .ref (t + 3)]) rfl ?_)
        refine fm_last (j := k) (len := 8) (v := e64 v.2) hc 3 d_Ms_unpack_175 (by omega) (by omega) hT.2.2.2.2.2 rfl (by omega) (by decide) ?_
        refine fm_iinc (v := nI (k + 1)) (lv' := [(2, .int (nI (k + 1))), (0, .ref o), (1, .ref t)]) hc d_Ms_unpack_176 rfl (nI_1 k) (by decide) rfl ?_
        refine fm_goto (tgt := 148) hc d_Ms_unpack_179 rfl ?_
        refine fm_dropl (lv' := [(2, .int (nI (k + 1))), (0, .ref o), (1, .ref t)]) (by simp) ?_
        have y1 : ∀ q, q ≠ t + 2 → q ≠ t + 3 → (fm_put2 Mb (t + 3) k (e64 v.2)).2.1 q = Mk.2.1 q := fun q a b => by
          rw [show (fm_put2 Mb (t + 3) k (e64 v.2)).2.1 q = Mb.2.1 q from funext fun i => p2_other b, t2, show (fm_put2 Ma (t + 2) k (e64 v.1)).2.1 q = Ma.2.1 q from funext fun i => p2_other a, r2]
        refine ih _ ⟨imC_fr (fun q j a => t3 q j a) (imC_o2 q1), ?_, fun i u hi hu => ?_, by rw [show (fm_put2 Mb (t + 3) k (e64 v.2)).2.2 = Mb.2.2 from rfl, t2, show (fm_put2 Ma (t + 2) k (e64 v.1)).2.2 = Ma.2.2 from rfl, r2]; exact l4, fun q j a => (t3 q j a).trans ((r3 q j a).trans (l5 q j a)), fun q a b => (y1 q a b).trans (l6 q a b)⟩
        · show Mb.1 o 6 = _
          rw [t1, fl_take hv, List.length_append, im_P, List.length_append, Nat.add_assoc, Nat.add_assoc]
        · by_cases e : i = k
          · subst e
            rw [hv] at hu
            obtain rfl := Option.some.inj hu
            exact ⟨(p2_other (by omega)).trans (by rw [t2]; exact p2_same _ _ _ _), p2_same _ _ _ _⟩
          · have := l3 i u (by omega) hu
            refine ⟨?_, ?_⟩
            · rw [p2_other (by omega), t2, p2_at e, r2]; exact this.1
            · rw [p2_at e, t2, p2_other (by omega), r2]; exact this.2
      · clear l1 l2 l3 l4 l5 l6 qk k7 z3 z4 z5
        obtain ⟨l1, l2, l3, l4, l5, l6⟩ := hI
        have qk : tr_P Mk t := by unfold tr_P; rw [l4]; exact hq
        have k7 : Mk.2.2 o 7 = some (o + 1) := by rw [l4]; exact hp7
        refine fm_iload_n hc d_Ms_unpack_148 rfl rfl ?_
        refine fm_aload_n hc d_Ms_unpack_149 rfl rfl ?_
        refine fm_getI (k := 9) hc K_Tr d_Ms_unpack_150 q_214 rfl (by omega) (by omega) hT.2.2.1 (by decide) (by decide) rfl ?_
        refine fm_top (congrArg Value.int (show Mk.1 t 9 = nI A.2.2.length from ((l5 t 9 (by omega)).trans z6))) ?_
        refine fm_icmp_ge (tgt := 182) hc d_Ms_unpack_153 rfl (fun _ => ?_) (fun gQ => absurd (nI_le (Nat.le_refl _) (by omega)) gQ)
        refine fm_vret hc hr d_Ms_unpack_182 (Nat.le_refl _) (Nat.le_refl _) ⟨rfl, rfl, ⟨fun j hj => ?_, (l5 t 8 (by omega)).trans ((nz 8 (by omega)).trans nQ10_8), (l5 t 9 (by omega)).trans z6, fun i v hv => (by rw [l6 _ (by omega) (by omega)]; exact sz i v hv), fun i v hv => l3 i v (List.getElem?_eq_some_iff.mp hv).1 hv⟩, l4, fun q j a b => (l5 q j b).trans (fz q j a b), fun q a b c => (l6 q b c).trans (lz q a)⟩
        rw [l5 t j (by omega), nz j (by omega)]
        rcases (show j = 0 ∨ j = 1 ∨ j = 2 ∨ j = 3 ∨ j = 4 ∨ j = 5 ∨ j = 6 ∨ j = 7 by omega) with rfl | rfl | rfl | rfl | rfl | rfl | rfl | rfl
        · exact nQ10_0
        · exact nQ10_1
        · exact nQ10_2
        · exact nQ10_3
        · exact nQ10_4
        · exact nQ10_5
        · exact nQ10_6
        · exact nQ10_7
  · by_cases gz : A.1 7 = 0
    · refine fm_iconst (v := nI 1) hc d_Ms_unpack_58 rfl ?_
      refine fm_icmp_ne (tgt := 66) hc d_Ms_unpack_59 rfl (fun _ => ?_) (fun gQ => absurd gQ (fun q => by have := nI_inj (a := A.1 7) (c := 1) (by omega) (by decide) q; omega))
      refine fm_iconst (v := nI 0) hc d_Ms_unpack_66 rfl ?_
      refine fm_top (congrArg Value.int (show nI 0 = nI (A.1 7) by rw [gz])) ?_
      exact J _ rfl
    · refine fm_iconst (v := nI 1) hc d_Ms_unpack_58 rfl ?_
      refine fm_icmp_ne (tgt := 66) hc d_Ms_unpack_59 rfl (fun gQ => absurd (congrArg nI (show A.1 7 = 1 by omega)) gQ) (fun _ => ?_)
      refine fm_iconst (v := nI 1) hc d_Ms_unpack_62 rfl ?_
      refine fm_goto (tgt := 67) hc d_Ms_unpack_63 rfl ?_
      refine fm_top (congrArg Value.int (show nI 1 = nI (A.1 7) by rw [show A.1 7 = 1 by omega])) ?_
      exact J _ rfl
