/-! QUERIES on any state: message, agent -/
theorem t10 (k : Nat) : nI (10 + k) - nI 10 = nI k := by
  rw [pk_sub (by omega)]
  congr 1
  omega
theorem t10_out {k c : Nat} (hk : k < 1000) (hc : c ≤ 6) : (nI (10 + k)).toInt < 0 ∨ (c : Int) < (nI (10 + k)).toInt := by
  right
  rw [nI_int (by omega)]
  omega
theorem t10_lt {k : Nat} (hk : k < 1000) : ¬ nI (10 + k) < nI 10 := fun h => by
  have := Int32.lt_iff_toInt_lt.mp h
  rw [nI_int (by omega), nI_int (by decide)] at this
  omega
theorem nI_ltB {a c : Nat} (h : a < c) (hc : c < 100000) : nI a < nI c := by
  rw [Int32.lt_iff_toInt_lt, nI_int (by omega), nI_int (by omega)]
  omega
theorem t_msg_0a {l : Launch} {b : Nat} {x : Nat → Nat} {D : va_G} {dA : Nat → ClassId} {o : Nat}  {m0 : mg_T} {n : Nat} {M : fm_M} (hL : ms_L n o) (h7 : M.2.2 o 7 = some (o + 1)) (h : hc_G M o m0) (hm : mg_ok m0) (h0 : m0.1 = 0) : Met l y_Ms_tell (Cond.code y_Ms_tell b_Ms_tell 2 (some .int) :: fm_T0) ({ frames := 0, cells := 0, slots := 0, locals := 0 }) (fm_Pc fm_lay fm_nf fm_fk fm_cl b x D dA (fm_tys dA) (fm_EX b x) false [.ref o, .int (nI 0)] n M) (fm_Qc fm_lay fm_nf fm_fk fm_cl b x D dA (fun r n' M' => r = some (.int (nI m0.1)) ∧ n' = n ∧ M' = M)) 0 0 (fm_A b) := by
  refine fm_enter (by decide) (Nat.le_of_ble_eq_true rfl) ?_
  intro p e s m args below meth c9 hc hr hnm hex htg
  have hlo := hL
  obtain ⟨ho1, ho2, ho3, -, -⟩ := hlo
  obtain ⟨m1, m2, m3⟩ := hm
  refine fm_iload_n hc d_Ms_tell_0 rfl rfl ?_
  refine fm_tableIn (off := 39) (tgt := 40) hc d_Ms_tell_1 (by decide) (by decide) rfl rfl ?_
  refine fm_aload_n hc d_Ms_tell_40 rfl rfl ?_
  refine fm_getI (k := 0) hc K_Ms d_Ms_tell_41 q_50 rfl (by omega) (by omega) hL.2.2.2.1 (by decide) (by decide) rfl ?_
  refine fm_top (congrArg Value.int (show M.1 o 0 = nI 1 from (h.1.trans (by rw [h0])))) ?_
  refine fm_if_eq (tgt := 51) hc d_Ms_tell_44 rfl (fun gQ => absurd gQ (by decide)) (fun _ => ?_)
  refine fm_iconst (v := nI 0) hc d_Ms_tell_47 rfl ?_
  refine fm_goto (tgt := 52) hc d_Ms_tell_48 rfl ?_
  exact fm_iret hc hr d_Ms_tell_52 (Nat.le_refl _) (Nat.le_refl _) ⟨by rw [h0], rfl, rfl⟩
theorem t_msg_0b {l : Launch} {b : Nat} {x : Nat → Nat} {D : va_G} {dA : Nat → ClassId} {o : Nat}  {m0 : mg_T} {n : Nat} {M : fm_M} (hL : ms_L n o) (h7 : M.2.2 o 7 = some (o + 1)) (h : hc_G M o m0) (hm : mg_ok m0) (h0 : m0.1 = 1) : Met l y_Ms_tell (Cond.code y_Ms_tell b_Ms_tell 2 (some .int) :: fm_T0) ({ frames := 0, cells := 0, slots := 0, locals := 0 }) (fm_Pc fm_lay fm_nf fm_fk fm_cl b x D dA (fm_tys dA) (fm_EX b x) false [.ref o, .int (nI 0)] n M) (fm_Qc fm_lay fm_nf fm_fk fm_cl b x D dA (fun r n' M' => r = some (.int (nI m0.1)) ∧ n' = n ∧ M' = M)) 0 0 (fm_A b) := by
  refine fm_enter (by decide) (Nat.le_of_ble_eq_true rfl) ?_
  intro p e s m args below meth c9 hc hr hnm hex htg
  have hlo := hL
  obtain ⟨ho1, ho2, ho3, -, -⟩ := hlo
  obtain ⟨m1, m2, m3⟩ := hm
  refine fm_iload_n hc d_Ms_tell_0 rfl rfl ?_
  refine fm_tableIn (off := 39) (tgt := 40) hc d_Ms_tell_1 (by decide) (by decide) rfl rfl ?_
  refine fm_aload_n hc d_Ms_tell_40 rfl rfl ?_
  refine fm_getI (k := 0) hc K_Ms d_Ms_tell_41 q_50 rfl (by omega) (by omega) hL.2.2.2.1 (by decide) (by decide) rfl ?_
  refine fm_top (congrArg Value.int (show M.1 o 0 = nI 0 from (h.1.trans (by rw [h0])))) ?_
  refine fm_if_eq (tgt := 51) hc d_Ms_tell_44 rfl (fun _ => ?_) (fun gQ => absurd (by decide) gQ)
  refine fm_iconst (v := nI 1) hc d_Ms_tell_51 rfl ?_
  exact fm_iret hc hr d_Ms_tell_52 (Nat.le_refl _) (Nat.le_refl _) ⟨by rw [h0], rfl, rfl⟩
theorem t_msg_1 {l : Launch} {b : Nat} {x : Nat → Nat} {D : va_G} {dA : Nat → ClassId} {o : Nat}  {m0 : mg_T} {n : Nat} {M : fm_M} (hL : ms_L n o) (h7 : M.2.2 o 7 = some (o + 1)) (h : hc_G M o m0) (hm : mg_ok m0) : Met l y_Ms_tell (Cond.code y_Ms_tell b_Ms_tell 2 (some .int) :: fm_T0) ({ frames := 0, cells := 0, slots := 0, locals := 0 }) (fm_Pc fm_lay fm_nf fm_fk fm_cl b x D dA (fm_tys dA) (fm_EX b x) false [.ref o, .int (nI 1)] n M) (fm_Qc fm_lay fm_nf fm_fk fm_cl b x D dA (fun r n' M' => r = some (.int (nI m0.2.1)) ∧ n' = n ∧ M' = M)) 0 0 (fm_A b) := by
  refine fm_enter (by decide) (Nat.le_of_ble_eq_true rfl) ?_
  intro p e s m args below meth c9 hc hr hnm hex htg
  have hlo := hL
  obtain ⟨ho1, ho2, ho3, -, -⟩ := hlo
  obtain ⟨m1, m2, m3⟩ := hm
  refine fm_iload_n hc d_Ms_tell_0 rfl rfl ?_
  refine fm_tableIn (off := 52) (tgt := 53) hc d_Ms_tell_1 (by decide) (by decide) rfl rfl ?_
  refine fm_aload_n hc d_Ms_tell_53 rfl rfl ?_
  refine fm_getI (k := 1) hc K_Ms d_Ms_tell_54 q_52 rfl (by omega) (by omega) hL.2.2.2.1 (by decide) (by decide) rfl ?_
  refine fm_top (congrArg Value.int (show M.1 o 1 = nI m0.2.1 from h.2.1)) ?_
  exact fm_iret hc hr d_Ms_tell_57 (Nat.le_refl _) (Nat.le_refl _) ⟨rfl, rfl, rfl⟩
theorem t_msg_2 {l : Launch} {b : Nat} {x : Nat → Nat} {D : va_G} {dA : Nat → ClassId} {o : Nat}  {m0 : mg_T} {n : Nat} {M : fm_M} (hL : ms_L n o) (h7 : M.2.2 o 7 = some (o + 1)) (h : hc_G M o m0) (hm : mg_ok m0) : Met l y_Ms_tell (Cond.code y_Ms_tell b_Ms_tell 2 (some .int) :: fm_T0) ({ frames := 0, cells := 0, slots := 0, locals := 0 }) (fm_Pc fm_lay fm_nf fm_fk fm_cl b x D dA (fm_tys dA) (fm_EX b x) false [.ref o, .int (nI 2)] n M) (fm_Qc fm_lay fm_nf fm_fk fm_cl b x D dA (fun r n' M' => r = some (.int (m0.2.2.1)) ∧ n' = n ∧ M' = M)) 0 0 (fm_A b) := by
  refine fm_enter (by decide) (Nat.le_of_ble_eq_true rfl) ?_
  intro p e s m args below meth c9 hc hr hnm hex htg
  have hlo := hL
  obtain ⟨ho1, ho2, ho3, -, -⟩ := hlo
  obtain ⟨m1, m2, m3⟩ := hm
  refine fm_iload_n hc d_Ms_tell_0 rfl rfl ?_
  refine fm_tableIn (off := 57) (tgt := 58) hc d_Ms_tell_1 (by decide) (by decide) rfl rfl ?_
  refine fm_aload_n hc d_Ms_tell_58 rfl rfl ?_
  refine fm_getI (k := 2) hc K_Ms d_Ms_tell_59 q_54 rfl (by omega) (by omega) hL.2.2.2.1 (by decide) (by decide) rfl ?_
  refine fm_top (congrArg Value.int (show M.1 o 2 = m0.2.2.1 from h.2.2.1)) ?_
  exact fm_iret hc hr d_Ms_tell_62 (Nat.le_refl _) (Nat.le_refl _) ⟨rfl, rfl, rfl⟩
theorem t_msg_3 {l : Launch} {b : Nat} {x : Nat → Nat} {D : va_G} {dA : Nat → ClassId} {o : Nat}  {m0 : mg_T} {n : Nat} {M : fm_M} (hL : ms_L n o) (h7 : M.2.2 o 7 = some (o + 1)) (h : hc_G M o m0) (hm : mg_ok m0) : Met l y_Ms_tell (Cond.code y_Ms_tell b_Ms_tell 2 (some .int) :: fm_T0) ({ frames := 0, cells := 0, slots := 0, locals := 0 }) (fm_Pc fm_lay fm_nf fm_fk fm_cl b x D dA (fm_tys dA) (fm_EX b x) false [.ref o, .int (nI 3)] n M) (fm_Qc fm_lay fm_nf fm_fk fm_cl b x D dA (fun r n' M' => r = some (.int (m0.2.2.2.1)) ∧ n' = n ∧ M' = M)) 0 0 (fm_A b) := by
  refine fm_enter (by decide) (Nat.le_of_ble_eq_true rfl) ?_
  intro p e s m args below meth c9 hc hr hnm hex htg
  have hlo := hL
  obtain ⟨ho1, ho2, ho3, -, -⟩ := hlo
  obtain ⟨m1, m2, m3⟩ := hm
  refine fm_iload_n hc d_Ms_tell_0 rfl rfl ?_
  refine fm_tableIn (off := 62) (tgt := 63) hc d_Ms_tell_1 (by decide) (by decide) rfl rfl ?_
  refine fm_aload_n hc d_Ms_tell_63 rfl rfl ?_
  refine fm_getI (k := 3) hc K_Ms d_Ms_tell_64 q_56 rfl (by omega) (by omega) hL.2.2.2.1 (by decide) (by decide) rfl ?_
  refine fm_top (congrArg Value.int (show M.1 o 3 = m0.2.2.2.1 from h.2.2.2.1)) ?_
  exact fm_iret hc hr d_Ms_tell_67 (Nat.le_refl _) (Nat.le_refl _) ⟨rfl, rfl, rfl⟩
theorem t_msg_4 {l : Launch} {b : Nat} {x : Nat → Nat} {D : va_G} {dA : Nat → ClassId} {o : Nat}  {m0 : mg_T} {n : Nat} {M : fm_M} (hL : ms_L n o) (h7 : M.2.2 o 7 = some (o + 1)) (h : hc_G M o m0) (hm : mg_ok m0) : Met l y_Ms_tell (Cond.code y_Ms_tell b_Ms_tell 2 (some .int) :: fm_T0) ({ frames := 0, cells := 0, slots := 0, locals := 0 }) (fm_Pc fm_lay fm_nf fm_fk fm_cl b x D dA (fm_tys dA) (fm_EX b x) false [.ref o, .int (nI 4)] n M) (fm_Qc fm_lay fm_nf fm_fk fm_cl b x D dA (fun r n' M' => r = some (.int (m0.2.2.2.2.1)) ∧ n' = n ∧ M' = M)) 0 0 (fm_A b) := by
  refine fm_enter (by decide) (Nat.le_of_ble_eq_true rfl) ?_
  intro p e s m args below meth c9 hc hr hnm hex htg
  have hlo := hL
  obtain ⟨ho1, ho2, ho3, -, -⟩ := hlo
  obtain ⟨m1, m2, m3⟩ := hm
  refine fm_iload_n hc d_Ms_tell_0 rfl rfl ?_
  refine fm_tableIn (off := 67) (tgt := 68) hc d_Ms_tell_1 (by decide) (by decide) rfl rfl ?_
  refine fm_aload_n hc d_Ms_tell_68 rfl rfl ?_
  refine fm_getI (k := 4) hc K_Ms d_Ms_tell_69 q_58 rfl (by omega) (by omega) hL.2.2.2.1 (by decide) (by decide) rfl ?_
  refine fm_top (congrArg Value.int (show M.1 o 4 = m0.2.2.2.2.1 from h.2.2.2.2.1)) ?_
  exact fm_iret hc hr d_Ms_tell_72 (Nat.le_refl _) (Nat.le_refl _) ⟨rfl, rfl, rfl⟩
theorem t_msg_5 {l : Launch} {b : Nat} {x : Nat → Nat} {D : va_G} {dA : Nat → ClassId} {o : Nat}  {m0 : mg_T} {n : Nat} {M : fm_M} (hL : ms_L n o) (h7 : M.2.2 o 7 = some (o + 1)) (h : hc_G M o m0) (hm : mg_ok m0) : Met l y_Ms_tell (Cond.code y_Ms_tell b_Ms_tell 2 (some .int) :: fm_T0) ({ frames := 0, cells := 0, slots := 0, locals := 0 }) (fm_Pc fm_lay fm_nf fm_fk fm_cl b x D dA (fm_tys dA) (fm_EX b x) false [.ref o, .int (nI 5)] n M) (fm_Qc fm_lay fm_nf fm_fk fm_cl b x D dA (fun r n' M' => r = some (.int (nI m0.2.2.2.2.2.length)) ∧ n' = n ∧ M' = M)) 0 0 (fm_A b) := by
  refine fm_enter (by decide) (Nat.le_of_ble_eq_true rfl) ?_
  intro p e s m args below meth c9 hc hr hnm hex htg
  have hlo := hL
  obtain ⟨ho1, ho2, ho3, -, -⟩ := hlo
  obtain ⟨m1, m2, m3⟩ := hm
  refine fm_iload_n hc d_Ms_tell_0 rfl rfl ?_
  refine fm_tableIn (off := 72) (tgt := 73) hc d_Ms_tell_1 (by decide) (by decide) rfl rfl ?_
  refine fm_aload_n hc d_Ms_tell_73 rfl rfl ?_
  refine fm_getI (k := 5) hc K_Ms d_Ms_tell_74 q_60 rfl (by omega) (by omega) hL.2.2.2.1 (by decide) (by decide) rfl ?_
  refine fm_top (congrArg Value.int (show M.1 o 5 = nI m0.2.2.2.2.2.length from h.2.2.2.2.2.1)) ?_
  exact fm_iret hc hr d_Ms_tell_77 (Nat.le_refl _) (Nat.le_refl _) ⟨rfl, rfl, rfl⟩
theorem t_msg_k {l : Launch} {b : Nat} {x : Nat → Nat} {D : va_G} {dA : Nat → ClassId} {o k : Nat}  {m0 : mg_T} {n : Nat} {M : fm_M} (hL : ms_L n o) (h7 : M.2.2 o 7 = some (o + 1)) (h : hc_G M o m0) (hm : mg_ok m0) {b0 : Nat} (hk : m0.2.2.2.2.2[k]? = some b0) : Met l y_Ms_tell (Cond.code y_Ms_tell b_Ms_tell 2 (some .int) :: fm_T0) ({ frames := 0, cells := 0, slots := 0, locals := 0 }) (fm_Pc fm_lay fm_nf fm_fk fm_cl b x D dA (fm_tys dA) (fm_EX b x) false [.ref o, .int (nI (10 + k))] n M) (fm_Qc fm_lay fm_nf fm_fk fm_cl b x D dA (fun r n' M' => r = some (.int (nI (b0))) ∧ n' = n ∧ M' = M)) 0 0 (fm_A b) := by
  refine fm_enter (by decide) (Nat.le_of_ble_eq_true rfl) ?_
  intro p e s m args below meth c9 hc hr hnm hex htg
  have hlo := hL
  obtain ⟨ho1, ho2, ho3, -, -⟩ := hlo
  obtain ⟨m1, m2, m3⟩ := hm
  have hkl : k < m0.2.2.2.2.2.length := by
    rcases Nat.lt_or_ge k m0.2.2.2.2.2.length with q | q
    · exact q
    · rw [List.getElem?_eq_none q] at hk; cases hk
  refine fm_iload_n hc d_Ms_tell_0 rfl rfl ?_
  refine fm_tableOut (tgt := 78) hc d_Ms_tell_1 (t10_out (c := 5) (by omega) (by decide)) rfl ?_
  refine fm_iload_n hc d_Ms_tell_78 rfl rfl ?_
  refine fm_bipush (v := nI 10) hc d_Ms_tell_79 rfl ?_
  refine fm_icmp_lt (tgt := 111) hc d_Ms_tell_81 rfl (fun gQ => absurd gQ (t10_lt (by omega))) (fun _ => ?_)
  refine fm_iload_n hc d_Ms_tell_84 rfl rfl ?_
  refine fm_bipush (v := nI 10) hc d_Ms_tell_85 rfl ?_
  refine fm_isub hc d_Ms_tell_87 ?_
  refine fm_top (congrArg Value.int (pk_sub (a := 10 + k) (b := 10) (by omega))) ?_
  refine fm_top (congrArg Value.int (show nI ((10 + k) - 10) = nI k from (congrArg nI (by omega)))) ?_
  refine fm_aload_n hc d_Ms_tell_88 rfl rfl ?_
  refine fm_getI (k := 5) hc K_Ms d_Ms_tell_89 q_60 rfl (by omega) (by omega) hL.2.2.2.1 (by decide) (by decide) rfl ?_
  refine fm_top (congrArg Value.int (show M.1 o 5 = nI m0.2.2.2.2.2.length from h.2.2.2.2.2.1)) ?_
  refine fm_icmp_ge (tgt := 111) hc d_Ms_tell_92 rfl (fun gQ => absurd gQ (hnleB hkl (by omega))) (fun _ => ?_)
  refine fm_aload_n hc d_Ms_tell_95 rfl rfl ?_
  refine fm_getR (k := 7) (q := o + 1) hc K_Ms d_Ms_tell_96 q_62 rfl (by omega) (by omega) hL.2.2.2.1 (by decide) (by decide) rfl h7 ?_
  refine fm_iload_n hc d_Ms_tell_99 rfl rfl ?_
  refine fm_bipush (v := nI 10) hc d_Ms_tell_100 rfl ?_
  refine fm_isub hc d_Ms_tell_102 ?_
  refine fm_top (congrArg Value.int (pk_sub (a := 10 + k) (b := 10) (by omega))) ?_
  refine fm_top (congrArg Value.int (show nI ((10 + k) - 10) = nI k from (congrArg nI (by omega)))) ?_
  refine fm_bald (j := k) (len := 121) hc 2 d_Ms_tell_103 (by omega) (by omega) hL.2.2.2.2 rfl (by omega) (by decide) ?_
  refine fm_top (congrArg Value.int (show M.1 (o + 1) k = (nI b0).toInt8.toInt32 from (h.2.2.2.2.2.2 k b0 hk))) ?_
  refine fm_sipush (v := nI 255) hc d_Ms_tell_104 rfl ?_
  refine fm_iand hc d_Ms_tell_107 ?_
  refine fm_top (congrArg Value.int (show ((nI b0).toInt8.toInt32) &&& (nI 255) = nI b0 from (i8_255 b0 (m3 b0 (List.mem_of_getElem? hk))))) ?_
  refine fm_goto (tgt := 112) hc d_Ms_tell_108 rfl ?_
  exact fm_iret hc hr d_Ms_tell_112 (Nat.le_refl _) (Nat.le_refl _) ⟨rfl, rfl, rfl⟩
theorem t_msg_lo {l : Launch} {b : Nat} {x : Nat → Nat} {D : va_G} {dA : Nat → ClassId} {o : Nat} {u : Int32} {m0 : mg_T} {n : Nat} {M : fm_M} (hL : ms_L n o) (h7 : M.2.2 o 7 = some (o + 1)) (h : hc_G M o m0) (hm : mg_ok m0) (ho : u.toInt < 0 ∨ 5 < u.toInt) (hu : u < nI 10) : Met l y_Ms_tell (Cond.code y_Ms_tell b_Ms_tell 2 (some .int) :: fm_T0) ({ frames := 0, cells := 0, slots := 0, locals := 0 }) (fm_Pc fm_lay fm_nf fm_fk fm_cl b x D dA (fm_tys dA) (fm_EX b x) false [.ref o, .int u] n M) (fm_Qc fm_lay fm_nf fm_fk fm_cl b x D dA (fun r n' M' => r = some (.int (-1)) ∧ n' = n ∧ M' = M)) 0 0 (fm_A b) := by
  refine fm_enter (by decide) (Nat.le_of_ble_eq_true rfl) ?_
  intro p e s m args below meth c9 hc hr hnm hex htg
  have hlo := hL
  obtain ⟨ho1, ho2, ho3, -, -⟩ := hlo
  obtain ⟨m1, m2, m3⟩ := hm
  refine fm_iload_n hc d_Ms_tell_0 rfl rfl ?_
  refine fm_tableOut (tgt := 78) hc d_Ms_tell_1 ho rfl ?_
  refine fm_iload_n hc d_Ms_tell_78 rfl rfl ?_
  refine fm_bipush (v := nI 10) hc d_Ms_tell_79 rfl ?_
  refine fm_icmp_lt (tgt := 111) hc d_Ms_tell_81 rfl (fun _ => ?_) (fun gQ => absurd hu gQ)
  refine fm_iconst (v := (-1)) hc d_Ms_tell_111 rfl ?_
  exact fm_iret hc hr d_Ms_tell_112 (Nat.le_refl _) (Nat.le_refl _) ⟨rfl, rfl, rfl⟩
theorem t_msg_hi {l : Launch} {b : Nat} {x : Nat → Nat} {D : va_G} {dA : Nat → ClassId} {o : Nat} {u : Int32} {m0 : mg_T} {n : Nat} {M : fm_M} (hL : ms_L n o) (h7 : M.2.2 o 7 = some (o + 1)) (h : hc_G M o m0) (hm : mg_ok m0) (ho : u.toInt < 0 ∨ 5 < u.toInt) (hu : ¬ u < nI 10) (hx : nI m0.2.2.2.2.2.length ≤ u - nI 10) : Met l y_Ms_tell (Cond.code y_Ms_tell b_Ms_tell 2 (some .int) :: fm_T0) ({ frames := 0, cells := 0, slots := 0, locals := 0 }) (fm_Pc fm_lay fm_nf fm_fk fm_cl b x D dA (fm_tys dA) (fm_EX b x) false [.ref o, .int u] n M) (fm_Qc fm_lay fm_nf fm_fk fm_cl b x D dA (fun r n' M' => r = some (.int (-1)) ∧ n' = n ∧ M' = M)) 0 0 (fm_A b) := by
  refine fm_enter (by decide) (Nat.le_of_ble_eq_true rfl) ?_
  intro p e s m args below meth c9 hc hr hnm hex htg
  have hlo := hL
  obtain ⟨ho1, ho2, ho3, -, -⟩ := hlo
  obtain ⟨m1, m2, m3⟩ := hm
  refine fm_iload_n hc d_Ms_tell_0 rfl rfl ?_
  refine fm_tableOut (tgt := 78) hc d_Ms_tell_1 ho rfl ?_
  refine fm_iload_n hc d_Ms_tell_78 rfl rfl ?_
  refine fm_bipush (v := nI 10) hc d_Ms_tell_79 rfl ?_
  refine fm_icmp_lt (tgt := 111) hc d_Ms_tell_81 rfl (fun gQ => absurd gQ hu) (fun _ => ?_)
  refine fm_iload_n hc d_Ms_tell_84 rfl rfl ?_
  refine fm_bipush (v := nI 10) hc d_Ms_tell_85 rfl ?_
  refine fm_isub hc d_Ms_tell_87 ?_
  refine fm_aload_n hc d_Ms_tell_88 rfl rfl ?_
  refine fm_getI (k := 5) hc K_Ms d_Ms_tell_89 q_60 rfl (by omega) (by omega) hL.2.2.2.1 (by decide) (by decide) rfl ?_
  refine fm_top (congrArg Value.int (show M.1 o 5 = nI m0.2.2.2.2.2.length from h.2.2.2.2.2.1)) ?_
  refine fm_icmp_ge (tgt := 111) hc d_Ms_tell_92 rfl (fun _ => ?_) (fun gQ => absurd hx gQ)
  refine fm_iconst (v := (-1)) hc d_Ms_tell_111 rfl ?_
  exact fm_iret hc hr d_Ms_tell_112 (Nat.le_refl _) (Nat.le_refl _) ⟨rfl, rfl, rfl⟩
theorem c_message_ok {l : Launch} {b : Nat} {x : Nat → Nat} {D : va_G} {dA : Nat → ClassId} {k ln : Nat} {w : Nat → Nat} {u t : Int32} {n : Nat} {M : fm_M} (hn : 586 ≤ n) (hA : fm_AP M) (hp : wi_P M w) (hl : M.1 16 1 = nI ln) (hl20 : ln ≤ 20) (hk : k < ln) (hT : Met l y_Ms_tell (Cond.code y_Ms_tell b_Ms_tell 2 (some .int) :: fm_T0) ({ frames := 0, cells := 0, slots := 0, locals := 0 }) (fm_Pc fm_lay fm_nf fm_fk fm_cl b x D dA (fm_tys dA) (fm_EX b x) false [.ref (18 + 2 * w k), .int u] n M) (fm_Qc fm_lay fm_nf fm_fk fm_cl b x D dA (fun r n' M' => r = some (.int t) ∧ n' = n ∧ M' = M)) 0 0 (fm_A b)) : Met l y_An_message (Cond.code y_An_message b_An_message 3 (some .int) :: fm_T0) ({ frames := 1, cells := 0, slots := 0, locals := 22 }) (fm_Pc fm_lay fm_nf fm_fk fm_cl b x D dA (fm_tys dA) (fm_EX b x) false [.ref 8, .int (nI k), .int u] n M) (fm_Qc fm_lay fm_nf fm_fk fm_cl b x D dA (fun r n' M' => r = some (.int t) ∧ n' = n ∧ M' = M)) 0 0 (fm_A b) := by
  refine fm_enter (by decide) (Nat.le_of_ble_eq_true rfl) ?_
  intro p e s m args below meth c9 hc hr hnm hex htg
  have wk := hp.2.2.2.1 k (by omega)
  refine fm_aload_n hc d_An_message_0 rfl rfl ?_
  refine fm_getR (k := 3) (q := 16) hc K_An d_An_message_1 q_358 rfl (by decide) (by omega) (by decide) (by decide) (by decide) rfl (ap_3 hA) ?_
  refine fm_iload_n hc d_An_message_4 rfl rfl ?_
  refine fm_callV (av := [.int (nI k)]) (rest := []) (ob := 16) (ci := 4) (r0 := ("AgentNet$Wire", F_Wi, 3)) (y := y_Wi_has) (bytes := b_Wi_has) hc fm_T0_good (fm_EX_st b x) hex q_405 q_2 q_402 q_403 q_404 pd_Wi_has (by decide) (by omega) (by decide) (by decide) rfl rfl (c_Wi_has_ok hn ⟨nI_pos (by omega), by rw [hl]; exact hnleB hk (by omega)⟩) ⟨rfl, rfl, Nat.le_of_ble_eq_true rfl, Nat.le_of_ble_eq_true rfl⟩ ⟨Nat.le_of_ble_eq_true rfl, Nat.le_of_ble_eq_true rfl⟩ d_An_message_5 (Nat.le_of_ble_eq_true rfl) (fun r n2 M2 hp => ?_)
  obtain ⟨rfl, hq1, hq2⟩ := hp
  replace hq1 := hq1.symm
  replace hq2 := hq2.symm
  subst hq1 hq2
  refine fm_cnt (z' := (0, 0)) rfl (fm_st (st' := [.int (nI 1)]) rfl ?_)
  refine fm_if_eq (tgt := 27) hc d_An_message_8 rfl (fun gQ => absurd gQ (by decide)) (fun _ => ?_)
  refine fm_aload_n hc d_An_message_11 rfl rfl ?_
  refine fm_getR (k := 3) (q := 16) hc K_An d_An_message_12 q_358 rfl (by decide) (by omega) (by decide) (by decide) (by decide) rfl (ap_3 hA) ?_
  refine fm_getR (k := 0) (q := 17) hc K_Wi d_An_message_15 q_83 rfl (by decide) (by omega) (by decide) (by decide) (by decide) rfl hp.1 ?_
  refine fm_iload_n hc d_An_message_18 rfl rfl ?_
  refine fm_aald (q := 18 + 2 * w k) (j := k) (len := 20) hc 6 d_An_message_19 (by decide) (by omega) (by decide) (by decide) rfl (by omega) (by decide) (hp.2.1 k (by omega)) ?_
  refine fm_iload_n hc d_An_message_20 rfl rfl ?_
  refine fm_callV (av := [.int u]) (rest := []) (ob := 18 + 2 * w k) (ci := 9) (r0 := ("AgentNet$Message", F_Ms, 8)) (y := y_Ms_tell) (bytes := b_Ms_tell) hc fm_T0_good (fm_EX_st b x) hex q_409 q_3 q_406 q_407 q_408 pd_Ms_tell (by omega) (by omega) (ms_of hn wk).2.2.2.1 (by decide) rfl rfl (hT) ⟨rfl, rfl, Nat.le_of_ble_eq_true rfl, Nat.le_of_ble_eq_true rfl⟩ ⟨Nat.le_of_ble_eq_true rfl, Nat.le_of_ble_eq_true rfl⟩ d_An_message_21 (Nat.le_of_ble_eq_true rfl) (fun r n2 M2 hp => ?_)
  obtain ⟨rfl, hq1, hq2⟩ := hp
  replace hq1 := hq1.symm
  replace hq2 := hq2.symm
  subst hq1 hq2
  refine fm_cnt (z' := (0, 0)) rfl (fm_st (st' := [.int t]) rfl ?_)
  refine fm_goto (tgt := 28) hc d_An_message_24 rfl ?_
  exact fm_iret hc hr d_An_message_28 (Nat.le_refl _) (Nat.le_refl _) ⟨rfl, rfl, rfl⟩
theorem t_tr_0 {l : Launch} {b : Nat} {x : Nat → Nat} {D : va_G} {dA : Nat → ClassId} {t : Nat}  {A : ag_T} {n : Nat} {M : fm_M} (hT : tr_L n t) (hq : tr_P M t) (h : hc_A M t A) (ok : ag_ok A) : Met l y_Tr_tell (Cond.code y_Tr_tell b_Tr_tell 2 (some .int) :: fm_T0) ({ frames := 1, cells := 0, slots := 0, locals := 24 }) (fm_Pc fm_lay fm_nf fm_fk fm_cl b x D dA (fm_tys dA) (fm_EX b x) false [.ref t, .int (nI 0)] n M) (fm_Qc fm_lay fm_nf fm_fk fm_cl b x D dA (fun r n' M' => r = some (.int (nI (A.1 2))) ∧ n' = n ∧ M' = M)) 0 0 (fm_A b) := by
  refine fm_enter (by decide) (Nat.le_of_ble_eq_true rfl) ?_
  intro p e s m args below meth c9 hc hr hnm hex htg
  have ht1 := hT.1
  have ht2 := hT.2.1
  have ok1 := ok.1
  refine fm_iload_n hc d_Tr_tell_0 rfl rfl ?_
  refine fm_tableIn (off := 43) (tgt := 44) hc d_Tr_tell_1 (by decide) (by decide) rfl rfl ?_
  refine fm_aload_n hc d_Tr_tell_44 rfl rfl ?_
  refine fm_getI (k := 2) hc K_Tr d_Tr_tell_45 q_180 rfl (by omega) (by omega) hT.2.2.1 (by decide) (by decide) rfl ?_
  refine fm_top (congrArg Value.int (show M.1 t 2 = nI (A.1 2) from (h.1 2 (by decide)))) ?_
  exact fm_iret hc hr d_Tr_tell_48 (Nat.le_refl _) (Nat.le_refl _) ⟨rfl, rfl, rfl⟩
theorem t_tr_1 {l : Launch} {b : Nat} {x : Nat → Nat} {D : va_G} {dA : Nat → ClassId} {t : Nat}  {A : ag_T} {n : Nat} {M : fm_M} (hT : tr_L n t) (hq : tr_P M t) (h : hc_A M t A) (ok : ag_ok A) : Met l y_Tr_tell (Cond.code y_Tr_tell b_Tr_tell 2 (some .int) :: fm_T0) ({ frames := 1, cells := 0, slots := 0, locals := 24 }) (fm_Pc fm_lay fm_nf fm_fk fm_cl b x D dA (fm_tys dA) (fm_EX b x) false [.ref t, .int (nI 1)] n M) (fm_Qc fm_lay fm_nf fm_fk fm_cl b x D dA (fun r n' M' => r = some (.int (nI (A.1 4))) ∧ n' = n ∧ M' = M)) 0 0 (fm_A b) := by
  refine fm_enter (by decide) (Nat.le_of_ble_eq_true rfl) ?_
  intro p e s m args below meth c9 hc hr hnm hex htg
  have ht1 := hT.1
  have ht2 := hT.2.1
  have ok1 := ok.1
  refine fm_iload_n hc d_Tr_tell_0 rfl rfl ?_
  refine fm_tableIn (off := 48) (tgt := 49) hc d_Tr_tell_1 (by decide) (by decide) rfl rfl ?_
  refine fm_aload_n hc d_Tr_tell_49 rfl rfl ?_
  refine fm_getI (k := 4) hc K_Tr d_Tr_tell_50 q_188 rfl (by omega) (by omega) hT.2.2.1 (by decide) (by decide) rfl ?_
  refine fm_top (congrArg Value.int (show M.1 t 4 = nI (A.1 4) from (h.1 4 (by decide)))) ?_
  exact fm_iret hc hr d_Tr_tell_53 (Nat.le_refl _) (Nat.le_refl _) ⟨rfl, rfl, rfl⟩
theorem t_tr_2 {l : Launch} {b : Nat} {x : Nat → Nat} {D : va_G} {dA : Nat → ClassId} {t : Nat}  {A : ag_T} {n : Nat} {M : fm_M} (hT : tr_L n t) (hq : tr_P M t) (h : hc_A M t A) (ok : ag_ok A) : Met l y_Tr_tell (Cond.code y_Tr_tell b_Tr_tell 2 (some .int) :: fm_T0) ({ frames := 1, cells := 0, slots := 0, locals := 24 }) (fm_Pc fm_lay fm_nf fm_fk fm_cl b x D dA (fm_tys dA) (fm_EX b x) false [.ref t, .int (nI 2)] n M) (fm_Qc fm_lay fm_nf fm_fk fm_cl b x D dA (fun r n' M' => r = some (.int (nI (A.1 3))) ∧ n' = n ∧ M' = M)) 0 0 (fm_A b) := by
  refine fm_enter (by decide) (Nat.le_of_ble_eq_true rfl) ?_
  intro p e s m args below meth c9 hc hr hnm hex htg
  have ht1 := hT.1
  have ht2 := hT.2.1
  have ok1 := ok.1
  refine fm_iload_n hc d_Tr_tell_0 rfl rfl ?_
  refine fm_tableIn (off := 53) (tgt := 54) hc d_Tr_tell_1 (by decide) (by decide) rfl rfl ?_
  refine fm_aload_n hc d_Tr_tell_54 rfl rfl ?_
  refine fm_getI (k := 3) hc K_Tr d_Tr_tell_55 q_183 rfl (by omega) (by omega) hT.2.2.1 (by decide) (by decide) rfl ?_
  refine fm_top (congrArg Value.int (show M.1 t 3 = nI (A.1 3) from (h.1 3 (by decide)))) ?_
  exact fm_iret hc hr d_Tr_tell_58 (Nat.le_refl _) (Nat.le_refl _) ⟨rfl, rfl, rfl⟩
theorem t_tr_3 {l : Launch} {b : Nat} {x : Nat → Nat} {D : va_G} {dA : Nat → ClassId} {t : Nat}  {A : ag_T} {n : Nat} {M : fm_M} (hT : tr_L n t) (hq : tr_P M t) (h : hc_A M t A) (ok : ag_ok A) : Met l y_Tr_tell (Cond.code y_Tr_tell b_Tr_tell 2 (some .int) :: fm_T0) ({ frames := 1, cells := 0, slots := 0, locals := 24 }) (fm_Pc fm_lay fm_nf fm_fk fm_cl b x D dA (fm_tys dA) (fm_EX b x) false [.ref t, .int (nI 3)] n M) (fm_Qc fm_lay fm_nf fm_fk fm_cl b x D dA (fun r n' M' => r = some (.int (nI (A.1 5))) ∧ n' = n ∧ M' = M)) 0 0 (fm_A b) := by
  refine fm_enter (by decide) (Nat.le_of_ble_eq_true rfl) ?_
  intro p e s m args below meth c9 hc hr hnm hex htg
  have ht1 := hT.1
  have ht2 := hT.2.1
  have ok1 := ok.1
  refine fm_iload_n hc d_Tr_tell_0 rfl rfl ?_
  refine fm_tableIn (off := 58) (tgt := 59) hc d_Tr_tell_1 (by decide) (by decide) rfl rfl ?_
  refine fm_aload_n hc d_Tr_tell_59 rfl rfl ?_
  refine fm_getI (k := 5) hc K_Tr d_Tr_tell_60 q_194 rfl (by omega) (by omega) hT.2.2.1 (by decide) (by decide) rfl ?_
  refine fm_top (congrArg Value.int (show M.1 t 5 = nI (A.1 5) from (h.1 5 (by decide)))) ?_
  exact fm_iret hc hr d_Tr_tell_63 (Nat.le_refl _) (Nat.le_refl _) ⟨rfl, rfl, rfl⟩
theorem t_tr_4 {l : Launch} {b : Nat} {x : Nat → Nat} {D : va_G} {dA : Nat → ClassId} {t : Nat}  {A : ag_T} {n : Nat} {M : fm_M} (hT : tr_L n t) (hq : tr_P M t) (h : hc_A M t A) (ok : ag_ok A) : Met l y_Tr_tell (Cond.code y_Tr_tell b_Tr_tell 2 (some .int) :: fm_T0) ({ frames := 1, cells := 0, slots := 0, locals := 24 }) (fm_Pc fm_lay fm_nf fm_fk fm_cl b x D dA (fm_tys dA) (fm_EX b x) false [.ref t, .int (nI 4)] n M) (fm_Qc fm_lay fm_nf fm_fk fm_cl b x D dA (fun r n' M' => r = some (.int (nI (A.1 6))) ∧ n' = n ∧ M' = M)) 0 0 (fm_A b) := by
  refine fm_enter (by decide) (Nat.le_of_ble_eq_true rfl) ?_
  intro p e s m args below meth c9 hc hr hnm hex htg
  have ht1 := hT.1
  have ht2 := hT.2.1
  have ok1 := ok.1
  refine fm_iload_n hc d_Tr_tell_0 rfl rfl ?_
  refine fm_tableIn (off := 63) (tgt := 64) hc d_Tr_tell_1 (by decide) (by decide) rfl rfl ?_
  refine fm_aload_n hc d_Tr_tell_64 rfl rfl ?_
  refine fm_getI (k := 6) hc K_Tr d_Tr_tell_65 q_199 rfl (by omega) (by omega) hT.2.2.1 (by decide) (by decide) rfl ?_
  refine fm_top (congrArg Value.int (show M.1 t 6 = nI (A.1 6) from (h.1 6 (by decide)))) ?_
  exact fm_iret hc hr d_Tr_tell_68 (Nat.le_refl _) (Nat.le_refl _) ⟨rfl, rfl, rfl⟩
theorem t_tr_5 {l : Launch} {b : Nat} {x : Nat → Nat} {D : va_G} {dA : Nat → ClassId} {t : Nat}  {A : ag_T} {n : Nat} {M : fm_M} (hT : tr_L n t) (hq : tr_P M t) (h : hc_A M t A) (ok : ag_ok A) : Met l y_Tr_tell (Cond.code y_Tr_tell b_Tr_tell 2 (some .int) :: fm_T0) ({ frames := 1, cells := 0, slots := 0, locals := 24 }) (fm_Pc fm_lay fm_nf fm_fk fm_cl b x D dA (fm_tys dA) (fm_EX b x) false [.ref t, .int (nI 5)] n M) (fm_Qc fm_lay fm_nf fm_fk fm_cl b x D dA (fun r n' M' => r = some (.int (nI A.2.1.length)) ∧ n' = n ∧ M' = M)) 0 0 (fm_A b) := by
  refine fm_enter (by decide) (Nat.le_of_ble_eq_true rfl) ?_
  intro p e s m args below meth c9 hc hr hnm hex htg
  have ht1 := hT.1
  have ht2 := hT.2.1
  have ok1 := ok.1
  refine fm_iload_n hc d_Tr_tell_0 rfl rfl ?_
  refine fm_tableIn (off := 68) (tgt := 69) hc d_Tr_tell_1 (by decide) (by decide) rfl rfl ?_
  refine fm_aload_n hc d_Tr_tell_69 rfl rfl ?_
  refine fm_getI (k := 8) hc K_Tr d_Tr_tell_70 q_208 rfl (by omega) (by omega) hT.2.2.1 (by decide) (by decide) rfl ?_
  refine fm_top (congrArg Value.int (show M.1 t 8 = nI A.2.1.length from h.2.1)) ?_
  exact fm_iret hc hr d_Tr_tell_73 (Nat.le_refl _) (Nat.le_refl _) ⟨rfl, rfl, rfl⟩
theorem t_tr_6 {l : Launch} {b : Nat} {x : Nat → Nat} {D : va_G} {dA : Nat → ClassId} {t : Nat}  {A : ag_T} {n : Nat} {M : fm_M} (hT : tr_L n t) (hq : tr_P M t) (h : hc_A M t A) (ok : ag_ok A) : Met l y_Tr_tell (Cond.code y_Tr_tell b_Tr_tell 2 (some .int) :: fm_T0) ({ frames := 1, cells := 0, slots := 0, locals := 24 }) (fm_Pc fm_lay fm_nf fm_fk fm_cl b x D dA (fm_tys dA) (fm_EX b x) false [.ref t, .int (nI 6)] n M) (fm_Qc fm_lay fm_nf fm_fk fm_cl b x D dA (fun r n' M' => r = some (.int (nI A.2.2.length)) ∧ n' = n ∧ M' = M)) 0 0 (fm_A b) := by
  refine fm_enter (by decide) (Nat.le_of_ble_eq_true rfl) ?_
  intro p e s m args below meth c9 hc hr hnm hex htg
  have ht1 := hT.1
  have ht2 := hT.2.1
  have ok1 := ok.1
  refine fm_iload_n hc d_Tr_tell_0 rfl rfl ?_
  refine fm_tableIn (off := 73) (tgt := 74) hc d_Tr_tell_1 (by decide) (by decide) rfl rfl ?_
  refine fm_aload_n hc d_Tr_tell_74 rfl rfl ?_
  refine fm_getI (k := 9) hc K_Tr d_Tr_tell_75 q_212 rfl (by omega) (by omega) hT.2.2.1 (by decide) (by decide) rfl ?_
  refine fm_top (congrArg Value.int (show M.1 t 9 = nI A.2.2.length from h.2.2.1)) ?_
  exact fm_iret hc hr d_Tr_tell_78 (Nat.le_refl _) (Nat.le_refl _) ⟨rfl, rfl, rfl⟩
theorem t_tr_i {l : Launch} {b : Nat} {x : Nat → Nat} {D : va_G} {dA : Nat → ClassId} {t k : Nat}  {A : ag_T} {n : Nat} {M : fm_M} (hT : tr_L n t) (hq : tr_P M t) (h : hc_A M t A) (ok : ag_ok A) {y : Int32} (hk : A.2.1[k]? = some (.inl y)) : Met l y_Tr_tell (Cond.code y_Tr_tell b_Tr_tell 2 (some .int) :: fm_T0) ({ frames := 1, cells := 0, slots := 0, locals := 24 }) (fm_Pc fm_lay fm_nf fm_fk fm_cl b x D dA (fm_tys dA) (fm_EX b x) false [.ref t, .int (nI (10 + k))] n M) (fm_Qc fm_lay fm_nf fm_fk fm_cl b x D dA (fun r n' M' => r = some (.int (nI 0)) ∧ n' = n ∧ M' = M)) 0 0 (fm_A b) := by
  refine fm_enter (by decide) (Nat.le_of_ble_eq_true rfl) ?_
  intro p e s m args below meth c9 hc hr hnm hex htg
  have ht1 := hT.1
  have ht2 := hT.2.1
  have ok1 := ok.1
  have hkl : k < A.2.1.length := by
    rcases Nat.lt_or_ge k A.2.1.length with q | q
    · exact q
    · rw [List.getElem?_eq_none q] at hk; cases hk
  refine fm_iload_n hc d_Tr_tell_0 rfl rfl ?_
  refine fm_tableOut (tgt := 79) hc d_Tr_tell_1 (t10_out (c := 6) (by omega) (by decide)) rfl ?_
  refine fm_iload_n hc d_Tr_tell_79 rfl rfl ?_
  refine fm_bipush (v := nI 10) hc d_Tr_tell_80 rfl ?_
  refine fm_icmp_lt (tgt := 96) hc d_Tr_tell_82 rfl (fun gQ => absurd gQ (t10_lt (by omega))) (fun _ => ?_)
  refine fm_iload_n hc d_Tr_tell_85 rfl rfl ?_
  refine fm_bipush (v := nI 10) hc d_Tr_tell_86 rfl ?_
  refine fm_isub hc d_Tr_tell_88 ?_
  refine fm_top (congrArg Value.int (pk_sub (a := 10 + k) (b := 10) (by omega))) ?_
  refine fm_top (congrArg Value.int (show nI ((10 + k) - 10) = nI k from (congrArg nI (by omega)))) ?_
  refine fm_aload_n hc d_Tr_tell_89 rfl rfl ?_
  refine fm_getI (k := 8) hc K_Tr d_Tr_tell_90 q_208 rfl (by omega) (by omega) hT.2.2.1 (by decide) (by decide) rfl ?_
  refine fm_top (congrArg Value.int (show M.1 t 8 = nI A.2.1.length from h.2.1)) ?_
  refine fm_icmp_lt (tgt := 98) hc d_Tr_tell_93 rfl (fun _ => ?_) (fun gQ => absurd (nI_ltB hkl (by omega)) gQ)
  refine fm_aload_n hc d_Tr_tell_98 rfl rfl ?_
  refine fm_getR (k := 10) (q := t + 1) hc K_Tr d_Tr_tell_99 q_216 rfl (by omega) (by omega) hT.2.2.1 (by decide) (by decide) rfl hq.1 ?_
  refine fm_iload_n hc d_Tr_tell_102 rfl rfl ?_
  refine fm_bipush (v := nI 10) hc d_Tr_tell_103 rfl ?_
  refine fm_isub hc d_Tr_tell_105 ?_
  refine fm_top (congrArg Value.int (pk_sub (a := 10 + k) (b := 10) (by omega))) ?_
  refine fm_top (congrArg Value.int (show nI ((10 + k) - 10) = nI k from (congrArg nI (by omega)))) ?_
  refine fm_lald (j := k) (len := 6) hc 3 d_Tr_tell_106 (by omega) (by omega) hT.2.2.2.1 rfl (by omega) (by decide) ?_
  refine fm_top (congrArg Value.long (show M.2.1 (t + 1) k = e64 (.inl y) from (h.2.2.2.1 k _ hk))) ?_
  refine fm_callSN (av := [.long (e64 (.inl y))]) (rest := []) (y := y_An_isPair) (bytes := b_An_isPair) hc fm_T0_good (fm_EX_st b x) hex q_427 q_1 (nx_10 hex) q_426 pd_An_isPair (c_isPair_no (vx_int y)) ⟨rfl, rfl, Nat.le_of_ble_eq_true rfl, Nat.le_of_ble_eq_true rfl⟩ ⟨Nat.le_of_ble_eq_true rfl, Nat.le_of_ble_eq_true rfl⟩ d_Tr_tell_107 (Nat.le_of_ble_eq_true rfl) (fun r n2 M2 hp => ?_)
  obtain ⟨rfl, hq1, hq2⟩ := hp
  replace hq1 := hq1.symm
  replace hq2 := hq2.symm
  subst hq1 hq2
  refine fm_cnt (z' := (0, 0)) rfl (fm_st (st' := [.int (nI 0)]) rfl ?_)
  refine fm_if_eq (tgt := 117) hc d_Tr_tell_110 rfl (fun _ => ?_) (fun gQ => absurd (by decide) gQ)
  refine fm_iconst (v := nI 0) hc d_Tr_tell_117 rfl ?_
  exact fm_iret hc hr d_Tr_tell_118 (Nat.le_refl _) (Nat.le_refl _) ⟨rfl, rfl, rfl⟩
theorem t_tr_p {l : Launch} {b : Nat} {x : Nat → Nat} {D : va_G} {dA : Nat → ClassId} {t k : Nat}  {A : ag_T} {n : Nat} {M : fm_M} (hT : tr_L n t) (hq : tr_P M t) (h : hc_A M t A) (ok : ag_ok A) {y : Nat} (hk : A.2.1[k]? = some (.inr y)) : Met l y_Tr_tell (Cond.code y_Tr_tell b_Tr_tell 2 (some .int) :: fm_T0) ({ frames := 1, cells := 0, slots := 0, locals := 24 }) (fm_Pc fm_lay fm_nf fm_fk fm_cl b x D dA (fm_tys dA) (fm_EX b x) false [.ref t, .int (nI (10 + k))] n M) (fm_Qc fm_lay fm_nf fm_fk fm_cl b x D dA (fun r n' M' => r = some (.int (nI 1)) ∧ n' = n ∧ M' = M)) 0 0 (fm_A b) := by
  refine fm_enter (by decide) (Nat.le_of_ble_eq_true rfl) ?_
  intro p e s m args below meth c9 hc hr hnm hex htg
  have ht1 := hT.1
  have ht2 := hT.2.1
  have ok1 := ok.1
  have hkl : k < A.2.1.length := by
    rcases Nat.lt_or_ge k A.2.1.length with q | q
    · exact q
    · rw [List.getElem?_eq_none q] at hk; cases hk
  refine fm_iload_n hc d_Tr_tell_0 rfl rfl ?_
  refine fm_tableOut (tgt := 79) hc d_Tr_tell_1 (t10_out (c := 6) (by omega) (by decide)) rfl ?_
  refine fm_iload_n hc d_Tr_tell_79 rfl rfl ?_
  refine fm_bipush (v := nI 10) hc d_Tr_tell_80 rfl ?_
  refine fm_icmp_lt (tgt := 96) hc d_Tr_tell_82 rfl (fun gQ => absurd gQ (t10_lt (by omega))) (fun _ => ?_)
  refine fm_iload_n hc d_Tr_tell_85 rfl rfl ?_
  refine fm_bipush (v := nI 10) hc d_Tr_tell_86 rfl ?_
  refine fm_isub hc d_Tr_tell_88 ?_
  refine fm_top (congrArg Value.int (pk_sub (a := 10 + k) (b := 10) (by omega))) ?_
  refine fm_top (congrArg Value.int (show nI ((10 + k) - 10) = nI k from (congrArg nI (by omega)))) ?_
  refine fm_aload_n hc d_Tr_tell_89 rfl rfl ?_
  refine fm_getI (k := 8) hc K_Tr d_Tr_tell_90 q_208 rfl (by omega) (by omega) hT.2.2.1 (by decide) (by decide) rfl ?_
  refine fm_top (congrArg Value.int (show M.1 t 8 = nI A.2.1.length from h.2.1)) ?_
  refine fm_icmp_lt (tgt := 98) hc d_Tr_tell_93 rfl (fun _ => ?_) (fun gQ => absurd (nI_ltB hkl (by omega)) gQ)
  refine fm_aload_n hc d_Tr_tell_98 rfl rfl ?_
  refine fm_getR (k := 10) (q := t + 1) hc K_Tr d_Tr_tell_99 q_216 rfl (by omega) (by omega) hT.2.2.1 (by decide) (by decide) rfl hq.1 ?_
  refine fm_iload_n hc d_Tr_tell_102 rfl rfl ?_
  refine fm_bipush (v := nI 10) hc d_Tr_tell_103 rfl ?_
  refine fm_isub hc d_Tr_tell_105 ?_
  refine fm_top (congrArg Value.int (pk_sub (a := 10 + k) (b := 10) (by omega))) ?_
  refine fm_top (congrArg Value.int (show nI ((10 + k) - 10) = nI k from (congrArg nI (by omega)))) ?_
  refine fm_lald (j := k) (len := 6) hc 3 d_Tr_tell_106 (by omega) (by omega) hT.2.2.2.1 rfl (by omega) (by decide) ?_
  refine fm_top (congrArg Value.long (show M.2.1 (t + 1) k = e64 (.inr y) from (h.2.2.2.1 k _ hk))) ?_
  refine fm_callSN (av := [.long (e64 (.inr y))]) (rest := []) (y := y_An_isPair) (bytes := b_An_isPair) hc fm_T0_good (fm_EX_st b x) hex q_427 q_1 (nx_10 hex) q_426 pd_An_isPair (c_isPair_ok (vx_pair y (by have q : y < A.2.2.length := ok.2.2.1 _ (List.mem_of_getElem? hk); have := ok.2.1; omega))) ⟨rfl, rfl, Nat.le_of_ble_eq_true rfl, Nat.le_of_ble_eq_true rfl⟩ ⟨Nat.le_of_ble_eq_true rfl, Nat.le_of_ble_eq_true rfl⟩ d_Tr_tell_107 (Nat.le_of_ble_eq_true rfl) (fun r n2 M2 hp => ?_)
  obtain ⟨rfl, hq1, hq2⟩ := hp
  replace hq1 := hq1.symm
  replace hq2 := hq2.symm
  subst hq1 hq2
  refine fm_cnt (z' := (0, 0)) rfl (fm_st (st' := [.int (nI 1)]) rfl ?_)
  refine fm_if_eq (tgt := 117) hc d_Tr_tell_110 rfl (fun gQ => absurd gQ (by decide)) (fun _ => ?_)
  refine fm_iconst (v := nI 1) hc d_Tr_tell_113 rfl ?_
  refine fm_goto (tgt := 118) hc d_Tr_tell_114 rfl ?_
  exact fm_iret hc hr d_Tr_tell_118 (Nat.le_refl _) (Nat.le_refl _) ⟨rfl, rfl, rfl⟩
theorem t_tr_lo {l : Launch} {b : Nat} {x : Nat → Nat} {D : va_G} {dA : Nat → ClassId} {t : Nat} {u : Int32} {A : ag_T} {n : Nat} {M : fm_M} (hT : tr_L n t) (hq : tr_P M t) (h : hc_A M t A) (ok : ag_ok A) (ho : u.toInt < 0 ∨ 6 < u.toInt) (hu : u < nI 10) : Met l y_Tr_tell (Cond.code y_Tr_tell b_Tr_tell 2 (some .int) :: fm_T0) ({ frames := 1, cells := 0, slots := 0, locals := 24 }) (fm_Pc fm_lay fm_nf fm_fk fm_cl b x D dA (fm_tys dA) (fm_EX b x) false [.ref t, .int u] n M) (fm_Qc fm_lay fm_nf fm_fk fm_cl b x D dA (fun r n' M' => r = some (.int (-1)) ∧ n' = n ∧ M' = M)) 0 0 (fm_A b) := by
  refine fm_enter (by decide) (Nat.le_of_ble_eq_true rfl) ?_
  intro p e s m args below meth c9 hc hr hnm hex htg
  have ht1 := hT.1
  have ht2 := hT.2.1
  have ok1 := ok.1
  refine fm_iload_n hc d_Tr_tell_0 rfl rfl ?_
  refine fm_tableOut (tgt := 79) hc d_Tr_tell_1 ho rfl ?_
  refine fm_iload_n hc d_Tr_tell_79 rfl rfl ?_
  refine fm_bipush (v := nI 10) hc d_Tr_tell_80 rfl ?_
  refine fm_icmp_lt (tgt := 96) hc d_Tr_tell_82 rfl (fun _ => ?_) (fun gQ => absurd hu gQ)
  refine fm_iconst (v := (-1)) hc d_Tr_tell_96 rfl ?_
  exact fm_iret hc hr d_Tr_tell_97 (Nat.le_refl _) (Nat.le_refl _) ⟨rfl, rfl, rfl⟩
theorem t_tr_hi {l : Launch} {b : Nat} {x : Nat → Nat} {D : va_G} {dA : Nat → ClassId} {t : Nat} {u : Int32} {A : ag_T} {n : Nat} {M : fm_M} (hT : tr_L n t) (hq : tr_P M t) (h : hc_A M t A) (ok : ag_ok A) (ho : u.toInt < 0 ∨ 6 < u.toInt) (hu : ¬ u < nI 10) (hx : ¬ u - nI 10 < nI A.2.1.length) : Met l y_Tr_tell (Cond.code y_Tr_tell b_Tr_tell 2 (some .int) :: fm_T0) ({ frames := 1, cells := 0, slots := 0, locals := 24 }) (fm_Pc fm_lay fm_nf fm_fk fm_cl b x D dA (fm_tys dA) (fm_EX b x) false [.ref t, .int u] n M) (fm_Qc fm_lay fm_nf fm_fk fm_cl b x D dA (fun r n' M' => r = some (.int (-1)) ∧ n' = n ∧ M' = M)) 0 0 (fm_A b) := by
  refine fm_enter (by decide) (Nat.le_of_ble_eq_true rfl) ?_
  intro p e s m args below meth c9 hc hr hnm hex htg
  have ht1 := hT.1
  have ht2 := hT.2.1
  have ok1 := ok.1
  refine fm_iload_n hc d_Tr_tell_0 rfl rfl ?_
  refine fm_tableOut (tgt := 79) hc d_Tr_tell_1 ho rfl ?_
  refine fm_iload_n hc d_Tr_tell_79 rfl rfl ?_
  refine fm_bipush (v := nI 10) hc d_Tr_tell_80 rfl ?_
  refine fm_icmp_lt (tgt := 96) hc d_Tr_tell_82 rfl (fun gQ => absurd gQ hu) (fun _ => ?_)
  refine fm_iload_n hc d_Tr_tell_85 rfl rfl ?_
  refine fm_bipush (v := nI 10) hc d_Tr_tell_86 rfl ?_
  refine fm_isub hc d_Tr_tell_88 ?_
  refine fm_aload_n hc d_Tr_tell_89 rfl rfl ?_
  refine fm_getI (k := 8) hc K_Tr d_Tr_tell_90 q_208 rfl (by omega) (by omega) hT.2.2.1 (by decide) (by decide) rfl ?_
  refine fm_top (congrArg Value.int (show M.1 t 8 = nI A.2.1.length from h.2.1)) ?_
  refine fm_icmp_lt (tgt := 98) hc d_Tr_tell_93 rfl (fun gQ => absurd gQ hx) (fun _ => ?_)
  refine fm_iconst (v := (-1)) hc d_Tr_tell_96 rfl ?_
  exact fm_iret hc hr d_Tr_tell_97 (Nat.le_refl _) (Nat.le_refl _) ⟨rfl, rfl, rfl⟩
theorem c_agent_ok {l : Launch} {b : Nat} {x : Nat → Nat} {D : va_G} {dA : Nat → ClassId} {j a mm sl : Nat} {u t : Int32} {n : Nat} {M : fm_M} (hn : 586 ≤ n) (hA : fm_AP M) (hj : j < 4) (ha : a < 8) (hu : ¬ M.1 (90 + 124 * j) 1 = 0) (hM : fm_isM mm) (hm : M.2.2 (90 + 124 * j) 3 = some mm) (hP : fm_MP M mm) (hs : M.1 (mm + 1) a = nI sl) (hs4 : sl ≤ 4) (h0 : ¬ sl = 0) (hT : Met l y_Tr_tell (Cond.code y_Tr_tell b_Tr_tell 2 (some .int) :: fm_T0) ({ frames := 1, cells := 0, slots := 0, locals := 24 }) (fm_Pc fm_lay fm_nf fm_fk fm_cl b x D dA (fm_tys dA) (fm_EX b x) false [.ref (mm + (9 + 4 * a)), .int u] n M) (fm_Qc fm_lay fm_nf fm_fk fm_cl b x D dA (fun r n' M' => r = some (.int t) ∧ n' = n ∧ M' = M)) 0 0 (fm_A b)) : Met l y_An_agent (Cond.code y_An_agent b_An_agent 4 (some .int) :: fm_T0) ({ frames := 2, cells := 0, slots := 0, locals := 60 }) (fm_Pc fm_lay fm_nf fm_fk fm_cl b x D dA (fm_tys dA) (fm_EX b x) false [.ref 8, .int (nI j), .int (nI a), .int u] n M) (fm_Qc fm_lay fm_nf fm_fk fm_cl b x D dA (fun r n' M' => r = some (.int t) ∧ n' = n ∧ M' = M)) 0 0 (fm_A b) := by
  refine fm_enter (by decide) (Nat.le_of_ble_eq_true rfl) ?_
  intro p e s m args below meth c9 hc hr hnm hex htg
  have hlo := isM_lo hM
  refine fm_iload_n hc d_An_agent_0 rfl rfl ?_
  refine fm_callS (av := [.int (nI j)]) (rest := []) (y := y_An_isHost) (bytes := b_An_isHost) hc fm_T0_good (fm_EX_st b x) hex q_397 q_1 q_395 q_396 pd_An_isHost (c_An_isHost_ok (in4_of hj)) ⟨rfl, rfl, Nat.le_of_ble_eq_true rfl, Nat.le_of_ble_eq_true rfl⟩ ⟨Nat.le_of_ble_eq_true rfl, Nat.le_of_ble_eq_true rfl⟩ d_An_agent_1 (Nat.le_of_ble_eq_true rfl) (fun r n2 M2 hp => ?_)
  obtain ⟨rfl, hq1, hq2⟩ := hp
  replace hq1 := hq1.symm
  replace hq2 := hq2.symm
  subst hq1 hq2
  refine fm_cnt (z' := (0, 0)) rfl (fm_st (st' := [.int (nI 1)]) rfl ?_)
  refine fm_if_eq (tgt := 43) hc d_An_agent_4 rfl (fun gQ => absurd gQ (by decide)) (fun _ => ?_)
  refine fm_iload_n hc d_An_agent_7 rfl rfl ?_
  refine fm_callS (av := [.int (nI a)]) (rest := []) (y := y_An_isAgent) (bytes := b_An_isAgent) hc fm_T0_good (fm_EX_st b x) hex q_416 q_1 q_414 q_415 pd_An_isAgent (c_An_isAgent_ok (in8_of ha)) ⟨rfl, rfl, Nat.le_of_ble_eq_true rfl, Nat.le_of_ble_eq_true rfl⟩ ⟨Nat.le_of_ble_eq_true rfl, Nat.le_of_ble_eq_true rfl⟩ d_An_agent_8 (Nat.le_of_ble_eq_true rfl) (fun r n2 M2 hp => ?_)
  obtain ⟨rfl, hq1, hq2⟩ := hp
  replace hq1 := hq1.symm
  replace hq2 := hq2.symm
  subst hq1 hq2
  refine fm_cnt (z' := (0, 0)) rfl (fm_st (st' := [.int (nI 1)]) rfl ?_)
  refine fm_if_eq (tgt := 43) hc d_An_agent_11 rfl (fun gQ => absurd gQ (by decide)) (fun _ => ?_)
  refine fm_aload_n hc d_An_agent_14 rfl rfl ?_
  refine fm_getR (k := 2) (q := 15) hc K_An d_An_agent_15 q_357 rfl (by decide) (by omega) (by decide) (by decide) (by decide) rfl (ap_2 hA) ?_
  refine fm_iload_n hc d_An_agent_18 rfl rfl ?_
  refine fm_aald (q := 90 + 124 * j) (j := j) (len := 4) hc 5 d_An_agent_19 (by decide) (by omega) (by decide) (by decide) rfl (by omega) (by decide) (ap_site hA hj) ?_
  refine fm_getI (k := 1) hc K_Si d_An_agent_20 q_334 rfl (by omega) (by omega) (ly_Si hj) (by decide) (by decide) rfl ?_
  refine fm_if_eq (tgt := 43) hc d_An_agent_23 rfl (fun gQ => absurd gQ hu) (fun _ => ?_)
  refine fm_aload_n hc d_An_agent_26 rfl rfl ?_
  refine fm_getR (k := 2) (q := 15) hc K_An d_An_agent_27 q_357 rfl (by decide) (by omega) (by decide) (by decide) (by decide) rfl (ap_2 hA) ?_
  refine fm_iload_n hc d_An_agent_30 rfl rfl ?_
  refine fm_aald (q := 90 + 124 * j) (j := j) (len := 4) hc 5 d_An_agent_31 (by decide) (by omega) (by decide) (by decide) rfl (by omega) (by decide) (ap_site hA hj) ?_
  refine fm_getR (k := 3) (q := mm) hc K_Si d_An_agent_32 q_338 rfl (by omega) (by omega) (ly_Si hj) (by decide) (by decide) rfl hm ?_
  refine fm_getR (k := 0) (q := mm + 1) hc K_Me d_An_agent_35 q_307 rfl (by omega) (by omega) (ly_M0 hM) (by decide) (by decide) rfl hP.1 ?_
  refine fm_iload_n hc d_An_agent_38 rfl rfl ?_
  refine fm_iald (j := a) (len := 8) hc 0 d_An_agent_39 (by omega) (by omega) (ly_M hM (k := 1) (by omega)) rfl (by omega) (by decide) ?_
  refine fm_top (congrArg Value.int (show M.1 (mm + 1) a = nI sl from hs)) ?_
  refine fm_if_ne (tgt := 45) hc d_An_agent_40 rfl (fun _ => ?_) (fun gQ => absurd gQ (fun e => h0 (nI_inj (c := 0) (by omega) (by decide) e)))
  refine fm_aload_n hc d_An_agent_45 rfl rfl ?_
  refine fm_getR (k := 2) (q := 15) hc K_An d_An_agent_46 q_357 rfl (by decide) (by omega) (by decide) (by decide) (by decide) rfl (ap_2 hA) ?_
  refine fm_iload_n hc d_An_agent_49 rfl rfl ?_
  refine fm_aald (q := 90 + 124 * j) (j := j) (len := 4) hc 5 d_An_agent_50 (by decide) (by omega) (by decide) (by decide) rfl (by omega) (by decide) (ap_site hA hj) ?_
  refine fm_getR (k := 3) (q := mm) hc K_Si d_An_agent_51 q_338 rfl (by omega) (by omega) (ly_Si hj) (by decide) (by decide) rfl hm ?_
  refine fm_getR (k := 4) (q := mm + 5) hc K_Me d_An_agent_54 q_315 rfl (by omega) (by omega) (ly_M0 hM) (by decide) (by decide) rfl hP.2.2.2.2.1 ?_
  refine fm_iload_n hc d_An_agent_57 rfl rfl ?_
  refine fm_aald (q := mm + (9 + 4 * a)) (j := a) (len := 8) hc 7 d_An_agent_58 (by omega) (by omega) (ly_M hM (k := 5) (by omega)) (by decide) rfl (by omega) (by decide) (hP.2.2.2.2.2.2.2.2 a ha).1 ?_
  refine fm_iload_n hc d_An_agent_59 rfl rfl ?_
  refine fm_callV (av := [.int u]) (rest := []) (ob := mm + (9 + 4 * a)) (ci := 5) (r0 := ("AgentNet$Traveller", F_Tr, 13)) (y := y_Tr_tell) (bytes := b_Tr_tell) hc fm_T0_good (fm_EX_st b x) hex q_424 q_8 q_421 q_422 q_423 pd_Tr_tell (by omega) (by omega) (ly_Mt hM ha) (by decide) rfl rfl (hT) ⟨rfl, rfl, Nat.le_of_ble_eq_true rfl, Nat.le_of_ble_eq_true rfl⟩ ⟨Nat.le_of_ble_eq_true rfl, Nat.le_of_ble_eq_true rfl⟩ d_An_agent_60 (Nat.le_of_ble_eq_true rfl) (fun r n2 M2 hp => ?_)
  obtain ⟨rfl, hq1, hq2⟩ := hp
  replace hq1 := hq1.symm
  replace hq2 := hq2.symm
  subst hq1 hq2
  refine fm_cnt (z' := (0, 0)) rfl (fm_st (st' := [.int t]) rfl ?_)
  exact fm_iret hc hr d_An_agent_63 (Nat.le_refl _) (Nat.le_refl _) ⟨rfl, rfl, rfl⟩
theorem t10b (a k : Nat) : nI (a + (10 + k)) - nI 10 = nI (a + k) := by
  rw [pk_sub (by omega)]
  congr 1
  omega
theorem r_msg_0a {l : Launch} {b : Nat} {x : Nat → Nat} {D : va_G} {dA : Nat → ClassId} {k ln : Nat}  {m0 : mg_T} {n : Nat} {M : fm_M} (hn : 629 ≤ n) (hR : fm_RP M) (hl : M.1 586 37 = nI ln) (hl20 : ln ≤ 20) (hk : k < ln) (h : hr_Wk M k m0) (hm : mg_ok m0) (h0 : m0.1 = 0) : Met l y_Mo_message (Cond.code y_Mo_message b_Mo_message 3 (some .int) :: fm_T0) ({ frames := 1, cells := 0, slots := 0, locals := 22 }) (fm_Pc fm_lay fm_nf fm_fk fm_cl b x D dA (fm_tys dA) (fm_EX b x) false [.ref 586, .int (nI k), .int (nI 0)] n M) (fm_Qc fm_lay fm_nf fm_fk fm_cl b x D dA (fun r n' M' => r = some (.int (nI m0.1)) ∧ n' = n ∧ M' = fm_put1 M 586 0 (nI 0))) 0 0 (fm_A b) := by
  refine fm_enter (by decide) (Nat.le_of_ble_eq_true rfl) ?_
  intro p e s m args below meth c9 hc hr hnm hex htg
  obtain ⟨m1, m2, m3⟩ := hm
  have o1 : ∀ q i, q ≠ 586 → (fm_put1 M 586 0 (nI 0)).1 q i = M.1 q i := fun q i e => p1_other e
  refine fm_aload_n hc d_Mo_message_0 rfl rfl ?_
  refine fm_iconst (v := nI 0) hc d_Mo_message_1 rfl ?_
  refine fm_putI (k := 0) (v := nI 0) hc K_Mo d_Mo_message_2 q_885 rfl (by decide) (by omega) (by decide) (by decide) (by decide) rfl rfl rfl rfl ?_
  refine fm_mem (M' := fm_put1 M 586 0 (nI 0)) rfl rfl ?_
  refine fm_iload_n hc d_Mo_message_5 rfl rfl ?_
  refine fm_iconst (v := nI 0) hc d_Mo_message_6 rfl ?_
  refine fm_aload_n hc d_Mo_message_7 rfl rfl ?_
  refine fm_getI (k := 37) hc K_Mo d_Mo_message_8 q_922 rfl (by decide) (by omega) (by decide) (by decide) (by decide) rfl ?_
  refine fm_top (congrArg Value.int (show (fm_put1 M 586 0 (nI 0)).1 586 37 = nI ln from ((p1_at (by decide)).trans hl))) ?_
  refine fm_iconst (v := nI 1) hc d_Mo_message_11 rfl ?_
  refine fm_isub hc d_Mo_message_12 ?_
  refine fm_top (congrArg Value.int (pk_sub (a := ln) (b := 1) (by omega))) ?_
  refine fm_callS (av := [.int (nI k), .int (nI 0), .int (nI (ln - 1))]) (rest := []) (y := y_Mo_within) (bytes := b_Mo_within) hc fm_T0_good (fm_EX_st b x) hex q_1049 q_13 q_1047 q_1048 pd_Mo_within (c_Mo_within_ok ⟨nI_pos (by omega), hnltB (a := ln - 1) (c := k) (by omega) (by omega)⟩) ⟨rfl, rfl, Nat.le_of_ble_eq_true rfl, Nat.le_of_ble_eq_true rfl⟩ ⟨Nat.le_of_ble_eq_true rfl, Nat.le_of_ble_eq_true rfl⟩ d_Mo_message_13 (Nat.le_of_ble_eq_true rfl) (fun r n2 M2 hp => ?_)
  obtain ⟨rfl, hq1, hq2⟩ := hp
  replace hq1 := hq1.symm
  replace hq2 := hq2.symm
  subst hq1 hq2
  refine fm_cnt (z' := (0, 0)) rfl (fm_st (st' := [.int (nI 1)]) rfl ?_)
  refine fm_if_ne (tgt := 21) hc d_Mo_message_16 rfl (fun _ => ?_) (fun gQ => absurd gQ (by decide))
  refine fm_iload_n hc d_Mo_message_21 rfl rfl ?_
  refine fm_tableIn (off := 38) (tgt := 60) hc d_Mo_message_22 (by decide) (by decide) rfl rfl ?_
  refine fm_aload_n hc d_Mo_message_60 rfl rfl ?_
  refine fm_getR (k := 38) (q := 621) hc K_Mo d_Mo_message_61 q_923 rfl (by decide) (by omega) (by decide) (by decide) (by decide) rfl (rp_receipt hR) ?_
  refine fm_iload_n hc d_Mo_message_64 rfl rfl ?_
  refine fm_zald (j := k) (len := 21) hc 1 d_Mo_message_65 (by decide) (by omega) (by decide) rfl (by omega) (by decide) ?_
  refine fm_top (congrArg Value.int (show (fm_put1 M 586 0 (nI 0)).1 621 k = nI 0 from ((o1 _ _ (by decide)).trans (h.1.trans (by rw [h0]))))) ?_
  refine fm_if_eq (tgt := 73) hc d_Mo_message_66 rfl (fun _ => ?_) (fun gQ => absurd (by decide) gQ)
  refine fm_iconst (v := nI 0) hc d_Mo_message_73 rfl ?_
  exact fm_iret hc hr d_Mo_message_74 (Nat.le_refl _) (Nat.le_refl _) ⟨by rw [h0], rfl, rfl⟩
theorem r_msg_0b {l : Launch} {b : Nat} {x : Nat → Nat} {D : va_G} {dA : Nat → ClassId} {k ln : Nat}  {m0 : mg_T} {n : Nat} {M : fm_M} (hn : 629 ≤ n) (hR : fm_RP M) (hl : M.1 586 37 = nI ln) (hl20 : ln ≤ 20) (hk : k < ln) (h : hr_Wk M k m0) (hm : mg_ok m0) (h0 : m0.1 = 1) : Met l y_Mo_message (Cond.code y_Mo_message b_Mo_message 3 (some .int) :: fm_T0) ({ frames := 1, cells := 0, slots := 0, locals := 22 }) (fm_Pc fm_lay fm_nf fm_fk fm_cl b x D dA (fm_tys dA) (fm_EX b x) false [.ref 586, .int (nI k), .int (nI 0)] n M) (fm_Qc fm_lay fm_nf fm_fk fm_cl b x D dA (fun r n' M' => r = some (.int (nI m0.1)) ∧ n' = n ∧ M' = fm_put1 M 586 0 (nI 0))) 0 0 (fm_A b) := by
  refine fm_enter (by decide) (Nat.le_of_ble_eq_true rfl) ?_
  intro p e s m args below meth c9 hc hr hnm hex htg
  obtain ⟨m1, m2, m3⟩ := hm
  have o1 : ∀ q i, q ≠ 586 → (fm_put1 M 586 0 (nI 0)).1 q i = M.1 q i := fun q i e => p1_other e
  refine fm_aload_n hc d_Mo_message_0 rfl rfl ?_
  refine fm_iconst (v := nI 0) hc d_Mo_message_1 rfl ?_
  refine fm_putI (k := 0) (v := nI 0) hc K_Mo d_Mo_message_2 q_885 rfl (by decide) (by omega) (by decide) (by decide) (by decide) rfl rfl rfl rfl ?_
  refine fm_mem (M' := fm_put1 M 586 0 (nI 0)) rfl rfl ?_
  refine fm_iload_n hc d_Mo_message_5 rfl rfl ?_
  refine fm_iconst (v := nI 0) hc d_Mo_message_6 rfl ?_
  refine fm_aload_n hc d_Mo_message_7 rfl rfl ?_
  refine fm_getI (k := 37) hc K_Mo d_Mo_message_8 q_922 rfl (by decide) (by omega) (by decide) (by decide) (by decide) rfl ?_
  refine fm_top (congrArg Value.int (show (fm_put1 M 586 0 (nI 0)).1 586 37 = nI ln from ((p1_at (by decide)).trans hl))) ?_
  refine fm_iconst (v := nI 1) hc d_Mo_message_11 rfl ?_
  refine fm_isub hc d_Mo_message_12 ?_
  refine fm_top (congrArg Value.int (pk_sub (a := ln) (b := 1) (by omega))) ?_
  refine fm_callS (av := [.int (nI k), .int (nI 0), .int (nI (ln - 1))]) (rest := []) (y := y_Mo_within) (bytes := b_Mo_within) hc fm_T0_good (fm_EX_st b x) hex q_1049 q_13 q_1047 q_1048 pd_Mo_within (c_Mo_within_ok ⟨nI_pos (by omega), hnltB (a := ln - 1) (c := k) (by omega) (by omega)⟩) ⟨rfl, rfl, Nat.le_of_ble_eq_true rfl, Nat.le_of_ble_eq_true rfl⟩ ⟨Nat.le_of_ble_eq_true rfl, Nat.le_of_ble_eq_true rfl⟩ d_Mo_message_13 (Nat.le_of_ble_eq_true rfl) (fun r n2 M2 hp => ?_)
  obtain ⟨rfl, hq1, hq2⟩ := hp
  replace hq1 := hq1.symm
  replace hq2 := hq2.symm
  subst hq1 hq2
  refine fm_cnt (z' := (0, 0)) rfl (fm_st (st' := [.int (nI 1)]) rfl ?_)
  refine fm_if_ne (tgt := 21) hc d_Mo_message_16 rfl (fun _ => ?_) (fun gQ => absurd gQ (by decide))
  refine fm_iload_n hc d_Mo_message_21 rfl rfl ?_
  refine fm_tableIn (off := 38) (tgt := 60) hc d_Mo_message_22 (by decide) (by decide) rfl rfl ?_
  refine fm_aload_n hc d_Mo_message_60 rfl rfl ?_
  refine fm_getR (k := 38) (q := 621) hc K_Mo d_Mo_message_61 q_923 rfl (by decide) (by omega) (by decide) (by decide) (by decide) rfl (rp_receipt hR) ?_
  refine fm_iload_n hc d_Mo_message_64 rfl rfl ?_
  refine fm_zald (j := k) (len := 21) hc 1 d_Mo_message_65 (by decide) (by omega) (by decide) rfl (by omega) (by decide) ?_
  refine fm_top (congrArg Value.int (show (fm_put1 M 586 0 (nI 0)).1 621 k = nI 1 from ((o1 _ _ (by decide)).trans (h.1.trans (by rw [h0]))))) ?_
  refine fm_if_eq (tgt := 73) hc d_Mo_message_66 rfl (fun gQ => absurd gQ (by decide)) (fun _ => ?_)
  refine fm_iconst (v := nI 1) hc d_Mo_message_69 rfl ?_
  refine fm_goto (tgt := 74) hc d_Mo_message_70 rfl ?_
  exact fm_iret hc hr d_Mo_message_74 (Nat.le_refl _) (Nat.le_refl _) ⟨by rw [h0], rfl, rfl⟩
theorem r_msg_1 {l : Launch} {b : Nat} {x : Nat → Nat} {D : va_G} {dA : Nat → ClassId} {k ln : Nat}  {m0 : mg_T} {n : Nat} {M : fm_M} (hn : 629 ≤ n) (hR : fm_RP M) (hl : M.1 586 37 = nI ln) (hl20 : ln ≤ 20) (hk : k < ln) (h : hr_Wk M k m0) (hm : mg_ok m0) : Met l y_Mo_message (Cond.code y_Mo_message b_Mo_message 3 (some .int) :: fm_T0) ({ frames := 1, cells := 0, slots := 0, locals := 22 }) (fm_Pc fm_lay fm_nf fm_fk fm_cl b x D dA (fm_tys dA) (fm_EX b x) false [.ref 586, .int (nI k), .int (nI 1)] n M) (fm_Qc fm_lay fm_nf fm_fk fm_cl b x D dA (fun r n' M' => r = some (.int (nI m0.2.1)) ∧ n' = n ∧ M' = fm_put1 M 586 0 (nI 0))) 0 0 (fm_A b) := by
  refine fm_enter (by decide) (Nat.le_of_ble_eq_true rfl) ?_
  intro p e s m args below meth c9 hc hr hnm hex htg
  obtain ⟨m1, m2, m3⟩ := hm
  have o1 : ∀ q i, q ≠ 586 → (fm_put1 M 586 0 (nI 0)).1 q i = M.1 q i := fun q i e => p1_other e
  refine fm_aload_n hc d_Mo_message_0 rfl rfl ?_
  refine fm_iconst (v := nI 0) hc d_Mo_message_1 rfl ?_
  refine fm_putI (k := 0) (v := nI 0) hc K_Mo d_Mo_message_2 q_885 rfl (by decide) (by omega) (by decide) (by decide) (by decide) rfl rfl rfl rfl ?_
  refine fm_mem (M' := fm_put1 M 586 0 (nI 0)) rfl rfl ?_
  refine fm_iload_n hc d_Mo_message_5 rfl rfl ?_
  refine fm_iconst (v := nI 0) hc d_Mo_message_6 rfl ?_
  refine fm_aload_n hc d_Mo_message_7 rfl rfl ?_
  refine fm_getI (k := 37) hc K_Mo d_Mo_message_8 q_922 rfl (by decide) (by omega) (by decide) (by decide) (by decide) rfl ?_
  refine fm_top (congrArg Value.int (show (fm_put1 M 586 0 (nI 0)).1 586 37 = nI ln from ((p1_at (by decide)).trans hl))) ?_
  refine fm_iconst (v := nI 1) hc d_Mo_message_11 rfl ?_
  refine fm_isub hc d_Mo_message_12 ?_
  refine fm_top (congrArg Value.int (pk_sub (a := ln) (b := 1) (by omega))) ?_
  refine fm_callS (av := [.int (nI k), .int (nI 0), .int (nI (ln - 1))]) (rest := []) (y := y_Mo_within) (bytes := b_Mo_within) hc fm_T0_good (fm_EX_st b x) hex q_1049 q_13 q_1047 q_1048 pd_Mo_within (c_Mo_within_ok ⟨nI_pos (by omega), hnltB (a := ln - 1) (c := k) (by omega) (by omega)⟩) ⟨rfl, rfl, Nat.le_of_ble_eq_true rfl, Nat.le_of_ble_eq_true rfl⟩ ⟨Nat.le_of_ble_eq_true rfl, Nat.le_of_ble_eq_true rfl⟩ d_Mo_message_13 (Nat.le_of_ble_eq_true rfl) (fun r n2 M2 hp => ?_)
  obtain ⟨rfl, hq1, hq2⟩ := hp
  replace hq1 := hq1.symm
  replace hq2 := hq2.symm
  subst hq1 hq2
  refine fm_cnt (z' := (0, 0)) rfl (fm_st (st' := [.int (nI 1)]) rfl ?_)
  refine fm_if_ne (tgt := 21) hc d_Mo_message_16 rfl (fun _ => ?_) (fun gQ => absurd gQ (by decide))
  refine fm_iload_n hc d_Mo_message_21 rfl rfl ?_
  refine fm_tableIn (off := 53) (tgt := 75) hc d_Mo_message_22 (by decide) (by decide) rfl rfl ?_
  refine fm_aload_n hc d_Mo_message_75 rfl rfl ?_
  refine fm_getR (k := 39) (q := 622) hc K_Mo d_Mo_message_76 q_924 rfl (by decide) (by omega) (by decide) (by decide) (by decide) rfl (rp_who hR) ?_
  refine fm_iload_n hc d_Mo_message_79 rfl rfl ?_
  refine fm_iald (j := k) (len := 21) hc 0 d_Mo_message_80 (by decide) (by omega) (by decide) rfl (by omega) (by decide) ?_
  refine fm_top (congrArg Value.int (show (fm_put1 M 586 0 (nI 0)).1 622 k = nI m0.2.1 from ((o1 _ _ (by decide)).trans h.2.1))) ?_
  exact fm_iret hc hr d_Mo_message_81 (Nat.le_refl _) (Nat.le_refl _) ⟨rfl, rfl, rfl⟩
theorem r_msg_2 {l : Launch} {b : Nat} {x : Nat → Nat} {D : va_G} {dA : Nat → ClassId} {k ln : Nat}  {m0 : mg_T} {n : Nat} {M : fm_M} (hn : 629 ≤ n) (hR : fm_RP M) (hl : M.1 586 37 = nI ln) (hl20 : ln ≤ 20) (hk : k < ln) (h : hr_Wk M k m0) (hm : mg_ok m0) : Met l y_Mo_message (Cond.code y_Mo_message b_Mo_message 3 (some .int) :: fm_T0) ({ frames := 1, cells := 0, slots := 0, locals := 22 }) (fm_Pc fm_lay fm_nf fm_fk fm_cl b x D dA (fm_tys dA) (fm_EX b x) false [.ref 586, .int (nI k), .int (nI 2)] n M) (fm_Qc fm_lay fm_nf fm_fk fm_cl b x D dA (fun r n' M' => r = some (.int (m0.2.2.1)) ∧ n' = n ∧ M' = fm_put1 M 586 0 (nI 0))) 0 0 (fm_A b) := by
  refine fm_enter (by decide) (Nat.le_of_ble_eq_true rfl) ?_
  intro p e s m args below meth c9 hc hr hnm hex htg
  obtain ⟨m1, m2, m3⟩ := hm
  have o1 : ∀ q i, q ≠ 586 → (fm_put1 M 586 0 (nI 0)).1 q i = M.1 q i := fun q i e => p1_other e
  refine fm_aload_n hc d_Mo_message_0 rfl rfl ?_
  refine fm_iconst (v := nI 0) hc d_Mo_message_1 rfl ?_
  refine fm_putI (k := 0) (v := nI 0) hc K_Mo d_Mo_message_2 q_885 rfl (by decide) (by omega) (by decide) (by decide) (by decide) rfl rfl rfl rfl ?_
  refine fm_mem (M' := fm_put1 M 586 0 (nI 0)) rfl rfl ?_
  refine fm_iload_n hc d_Mo_message_5 rfl rfl ?_
  refine fm_iconst (v := nI 0) hc d_Mo_message_6 rfl ?_
  refine fm_aload_n hc d_Mo_message_7 rfl rfl ?_
  refine fm_getI (k := 37) hc K_Mo d_Mo_message_8 q_922 rfl (by decide) (by omega) (by decide) (by decide) (by decide) rfl ?_
  refine fm_top (congrArg Value.int (show (fm_put1 M 586 0 (nI 0)).1 586 37 = nI ln from ((p1_at (by decide)).trans hl))) ?_
  refine fm_iconst (v := nI 1) hc d_Mo_message_11 rfl ?_
  refine fm_isub hc d_Mo_message_12 ?_
  refine fm_top (congrArg Value.int (pk_sub (a := ln) (b := 1) (by omega))) ?_
  refine fm_callS (av := [.int (nI k), .int (nI 0), .int (nI (ln - 1))]) (rest := []) (y := y_Mo_within) (bytes := b_Mo_within) hc fm_T0_good (fm_EX_st b x) hex q_1049 q_13 q_1047 q_1048 pd_Mo_within (c_Mo_within_ok ⟨nI_pos (by omega), hnltB (a := ln - 1) (c := k) (by omega) (by omega)⟩) ⟨rfl, rfl, Nat.le_of_ble_eq_true rfl, Nat.le_of_ble_eq_true rfl⟩ ⟨Nat.le_of_ble_eq_true rfl, Nat.le_of_ble_eq_true rfl⟩ d_Mo_message_13 (Nat.le_of_ble_eq_true rfl) (fun r n2 M2 hp => ?_)
  obtain ⟨rfl, hq1, hq2⟩ := hp
  replace hq1 := hq1.symm
  replace hq2 := hq2.symm
  subst hq1 hq2
  refine fm_cnt (z' := (0, 0)) rfl (fm_st (st' := [.int (nI 1)]) rfl ?_)
  refine fm_if_ne (tgt := 21) hc d_Mo_message_16 rfl (fun _ => ?_) (fun gQ => absurd gQ (by decide))
  refine fm_iload_n hc d_Mo_message_21 rfl rfl ?_
  refine fm_tableIn (off := 60) (tgt := 82) hc d_Mo_message_22 (by decide) (by decide) rfl rfl ?_
  refine fm_aload_n hc d_Mo_message_82 rfl rfl ?_
  refine fm_getR (k := 40) (q := 623) hc K_Mo d_Mo_message_83 q_925 rfl (by decide) (by omega) (by decide) (by decide) (by decide) rfl (rp_far hR) ?_
  refine fm_iload_n hc d_Mo_message_86 rfl rfl ?_
  refine fm_iald (j := k) (len := 21) hc 0 d_Mo_message_87 (by decide) (by omega) (by decide) rfl (by omega) (by decide) ?_
  refine fm_top (congrArg Value.int (show (fm_put1 M 586 0 (nI 0)).1 623 k = m0.2.2.1 from ((o1 _ _ (by decide)).trans h.2.2.1))) ?_
  exact fm_iret hc hr d_Mo_message_88 (Nat.le_refl _) (Nat.le_refl _) ⟨rfl, rfl, rfl⟩
theorem r_msg_3 {l : Launch} {b : Nat} {x : Nat → Nat} {D : va_G} {dA : Nat → ClassId} {k ln : Nat}  {m0 : mg_T} {n : Nat} {M : fm_M} (hn : 629 ≤ n) (hR : fm_RP M) (hl : M.1 586 37 = nI ln) (hl20 : ln ≤ 20) (hk : k < ln) (h : hr_Wk M k m0) (hm : mg_ok m0) : Met l y_Mo_message (Cond.code y_Mo_message b_Mo_message 3 (some .int) :: fm_T0) ({ frames := 1, cells := 0, slots := 0, locals := 22 }) (fm_Pc fm_lay fm_nf fm_fk fm_cl b x D dA (fm_tys dA) (fm_EX b x) false [.ref 586, .int (nI k), .int (nI 3)] n M) (fm_Qc fm_lay fm_nf fm_fk fm_cl b x D dA (fun r n' M' => r = some (.int (m0.2.2.2.1)) ∧ n' = n ∧ M' = fm_put1 M 586 0 (nI 0))) 0 0 (fm_A b) := by
  refine fm_enter (by decide) (Nat.le_of_ble_eq_true rfl) ?_
  intro p e s m args below meth c9 hc hr hnm hex htg
  obtain ⟨m1, m2, m3⟩ := hm
  have o1 : ∀ q i, q ≠ 586 → (fm_put1 M 586 0 (nI 0)).1 q i = M.1 q i := fun q i e => p1_other e
  refine fm_aload_n hc d_Mo_message_0 rfl rfl ?_
  refine fm_iconst (v := nI 0) hc d_Mo_message_1 rfl ?_
  refine fm_putI (k := 0) (v := nI 0) hc K_Mo d_Mo_message_2 q_885 rfl (by decide) (by omega) (by decide) (by decide) (by decide) rfl rfl rfl rfl ?_
  refine fm_mem (M' := fm_put1 M 586 0 (nI 0)) rfl rfl ?_
  refine fm_iload_n hc d_Mo_message_5 rfl rfl ?_
  refine fm_iconst (v := nI 0) hc d_Mo_message_6 rfl ?_
  refine fm_aload_n hc d_Mo_message_7 rfl rfl ?_
  refine fm_getI (k := 37) hc K_Mo d_Mo_message_8 q_922 rfl (by decide) (by omega) (by decide) (by decide) (by decide) rfl ?_
  refine fm_top (congrArg Value.int (show (fm_put1 M 586 0 (nI 0)).1 586 37 = nI ln from ((p1_at (by decide)).trans hl))) ?_
  refine fm_iconst (v := nI 1) hc d_Mo_message_11 rfl ?_
  refine fm_isub hc d_Mo_message_12 ?_
  refine fm_top (congrArg Value.int (pk_sub (a := ln) (b := 1) (by omega))) ?_
  refine fm_callS (av := [.int (nI k), .int (nI 0), .int (nI (ln - 1))]) (rest := []) (y := y_Mo_within) (bytes := b_Mo_within) hc fm_T0_good (fm_EX_st b x) hex q_1049 q_13 q_1047 q_1048 pd_Mo_within (c_Mo_within_ok ⟨nI_pos (by omega), hnltB (a := ln - 1) (c := k) (by omega) (by omega)⟩) ⟨rfl, rfl, Nat.le_of_ble_eq_true rfl, Nat.le_of_ble_eq_true rfl⟩ ⟨Nat.le_of_ble_eq_true rfl, Nat.le_of_ble_eq_true rfl⟩ d_Mo_message_13 (Nat.le_of_ble_eq_true rfl) (fun r n2 M2 hp => ?_)
  obtain ⟨rfl, hq1, hq2⟩ := hp
  replace hq1 := hq1.symm
  replace hq2 := hq2.symm
  subst hq1 hq2
  refine fm_cnt (z' := (0, 0)) rfl (fm_st (st' := [.int (nI 1)]) rfl ?_)
  refine fm_if_ne (tgt := 21) hc d_Mo_message_16 rfl (fun _ => ?_) (fun gQ => absurd gQ (by decide))
  refine fm_iload_n hc d_Mo_message_21 rfl rfl ?_
  refine fm_tableIn (off := 67) (tgt := 89) hc d_Mo_message_22 (by decide) (by decide) rfl rfl ?_
  refine fm_aload_n hc d_Mo_message_89 rfl rfl ?_
  refine fm_getR (k := 41) (q := 624) hc K_Mo d_Mo_message_90 q_926 rfl (by decide) (by omega) (by decide) (by decide) (by decide) rfl (rp_from hR) ?_
  refine fm_iload_n hc d_Mo_message_93 rfl rfl ?_
  refine fm_iald (j := k) (len := 21) hc 0 d_Mo_message_94 (by decide) (by omega) (by decide) rfl (by omega) (by decide) ?_
  refine fm_top (congrArg Value.int (show (fm_put1 M 586 0 (nI 0)).1 624 k = m0.2.2.2.1 from ((o1 _ _ (by decide)).trans h.2.2.2.1))) ?_
  exact fm_iret hc hr d_Mo_message_95 (Nat.le_refl _) (Nat.le_refl _) ⟨rfl, rfl, rfl⟩
theorem r_msg_4 {l : Launch} {b : Nat} {x : Nat → Nat} {D : va_G} {dA : Nat → ClassId} {k ln : Nat}  {m0 : mg_T} {n : Nat} {M : fm_M} (hn : 629 ≤ n) (hR : fm_RP M) (hl : M.1 586 37 = nI ln) (hl20 : ln ≤ 20) (hk : k < ln) (h : hr_Wk M k m0) (hm : mg_ok m0) : Met l y_Mo_message (Cond.code y_Mo_message b_Mo_message 3 (some .int) :: fm_T0) ({ frames := 1, cells := 0, slots := 0, locals := 22 }) (fm_Pc fm_lay fm_nf fm_fk fm_cl b x D dA (fm_tys dA) (fm_EX b x) false [.ref 586, .int (nI k), .int (nI 4)] n M) (fm_Qc fm_lay fm_nf fm_fk fm_cl b x D dA (fun r n' M' => r = some (.int (m0.2.2.2.2.1)) ∧ n' = n ∧ M' = fm_put1 M 586 0 (nI 0))) 0 0 (fm_A b) := by
  refine fm_enter (by decide) (Nat.le_of_ble_eq_true rfl) ?_
  intro p e s m args below meth c9 hc hr hnm hex htg
  obtain ⟨m1, m2, m3⟩ := hm
  have o1 : ∀ q i, q ≠ 586 → (fm_put1 M 586 0 (nI 0)).1 q i = M.1 q i := fun q i e => p1_other e
  refine fm_aload_n hc d_Mo_message_0 rfl rfl ?_
  refine fm_iconst (v := nI 0) hc d_Mo_message_1 rfl ?_
  refine fm_putI (k := 0) (v := nI 0) hc K_Mo d_Mo_message_2 q_885 rfl (by decide) (by omega) (by decide) (by decide) (by decide) rfl rfl rfl rfl ?_
  refine fm_mem (M' := fm_put1 M 586 0 (nI 0)) rfl rfl ?_
  refine fm_iload_n hc d_Mo_message_5 rfl rfl ?_
  refine fm_iconst (v := nI 0) hc d_Mo_message_6 rfl ?_
  refine fm_aload_n hc d_Mo_message_7 rfl rfl ?_
  refine fm_getI (k := 37) hc K_Mo d_Mo_message_8 q_922 rfl (by decide) (by omega) (by decide) (by decide) (by decide) rfl ?_
  refine fm_top (congrArg Value.int (show (fm_put1 M 586 0 (nI 0)).1 586 37 = nI ln from ((p1_at (by decide)).trans hl))) ?_
  refine fm_iconst (v := nI 1) hc d_Mo_message_11 rfl ?_
  refine fm_isub hc d_Mo_message_12 ?_
  refine fm_top (congrArg Value.int (pk_sub (a := ln) (b := 1) (by omega))) ?_
  refine fm_callS (av := [.int (nI k), .int (nI 0), .int (nI (ln - 1))]) (rest := []) (y := y_Mo_within) (bytes := b_Mo_within) hc fm_T0_good (fm_EX_st b x) hex q_1049 q_13 q_1047 q_1048 pd_Mo_within (c_Mo_within_ok ⟨nI_pos (by omega), hnltB (a := ln - 1) (c := k) (by omega) (by omega)⟩) ⟨rfl, rfl, Nat.le_of_ble_eq_true rfl, Nat.le_of_ble_eq_true rfl⟩ ⟨Nat.le_of_ble_eq_true rfl, Nat.le_of_ble_eq_true rfl⟩ d_Mo_message_13 (Nat.le_of_ble_eq_true rfl) (fun r n2 M2 hp => ?_)
  obtain ⟨rfl, hq1, hq2⟩ := hp
  replace hq1 := hq1.symm
  replace hq2 := hq2.symm
  subst hq1 hq2
  refine fm_cnt (z' := (0, 0)) rfl (fm_st (st' := [.int (nI 1)]) rfl ?_)
  refine fm_if_ne (tgt := 21) hc d_Mo_message_16 rfl (fun _ => ?_) (fun gQ => absurd gQ (by decide))
  refine fm_iload_n hc d_Mo_message_21 rfl rfl ?_
  refine fm_tableIn (off := 74) (tgt := 96) hc d_Mo_message_22 (by decide) (by decide) rfl rfl ?_
  refine fm_aload_n hc d_Mo_message_96 rfl rfl ?_
  refine fm_getR (k := 42) (q := 625) hc K_Mo d_Mo_message_97 q_927 rfl (by decide) (by omega) (by decide) (by decide) (by decide) rfl (rp_to hR) ?_
  refine fm_iload_n hc d_Mo_message_100 rfl rfl ?_
  refine fm_iald (j := k) (len := 21) hc 0 d_Mo_message_101 (by decide) (by omega) (by decide) rfl (by omega) (by decide) ?_
  refine fm_top (congrArg Value.int (show (fm_put1 M 586 0 (nI 0)).1 625 k = m0.2.2.2.2.1 from ((o1 _ _ (by decide)).trans h.2.2.2.2.1))) ?_
  exact fm_iret hc hr d_Mo_message_102 (Nat.le_refl _) (Nat.le_refl _) ⟨rfl, rfl, rfl⟩
theorem r_msg_5 {l : Launch} {b : Nat} {x : Nat → Nat} {D : va_G} {dA : Nat → ClassId} {k ln : Nat}  {m0 : mg_T} {n : Nat} {M : fm_M} (hn : 629 ≤ n) (hR : fm_RP M) (hl : M.1 586 37 = nI ln) (hl20 : ln ≤ 20) (hk : k < ln) (h : hr_Wk M k m0) (hm : mg_ok m0) : Met l y_Mo_message (Cond.code y_Mo_message b_Mo_message 3 (some .int) :: fm_T0) ({ frames := 1, cells := 0, slots := 0, locals := 22 }) (fm_Pc fm_lay fm_nf fm_fk fm_cl b x D dA (fm_tys dA) (fm_EX b x) false [.ref 586, .int (nI k), .int (nI 5)] n M) (fm_Qc fm_lay fm_nf fm_fk fm_cl b x D dA (fun r n' M' => r = some (.int (nI m0.2.2.2.2.2.length)) ∧ n' = n ∧ M' = fm_put1 M 586 0 (nI 0))) 0 0 (fm_A b) := by
  refine fm_enter (by decide) (Nat.le_of_ble_eq_true rfl) ?_
  intro p e s m args below meth c9 hc hr hnm hex htg
  obtain ⟨m1, m2, m3⟩ := hm
  have o1 : ∀ q i, q ≠ 586 → (fm_put1 M 586 0 (nI 0)).1 q i = M.1 q i := fun q i e => p1_other e
  refine fm_aload_n hc d_Mo_message_0 rfl rfl ?_
  refine fm_iconst (v := nI 0) hc d_Mo_message_1 rfl ?_
  refine fm_putI (k := 0) (v := nI 0) hc K_Mo d_Mo_message_2 q_885 rfl (by decide) (by omega) (by decide) (by decide) (by decide) rfl rfl rfl rfl ?_
  refine fm_mem (M' := fm_put1 M 586 0 (nI 0)) rfl rfl ?_
  refine fm_iload_n hc d_Mo_message_5 rfl rfl ?_
  refine fm_iconst (v := nI 0) hc d_Mo_message_6 rfl ?_
  refine fm_aload_n hc d_Mo_message_7 rfl rfl ?_
  refine fm_getI (k := 37) hc K_Mo d_Mo_message_8 q_922 rfl (by decide) (by omega) (by decide) (by decide) (by decide) rfl ?_
  refine fm_top (congrArg Value.int (show (fm_put1 M 586 0 (nI 0)).1 586 37 = nI ln from ((p1_at (by decide)).trans hl))) ?_
  refine fm_iconst (v := nI 1) hc d_Mo_message_11 rfl ?_
  refine fm_isub hc d_Mo_message_12 ?_
  refine fm_top (congrArg Value.int (pk_sub (a := ln) (b := 1) (by omega))) ?_
  refine fm_callS (av := [.int (nI k), .int (nI 0), .int (nI (ln - 1))]) (rest := []) (y := y_Mo_within) (bytes := b_Mo_within) hc fm_T0_good (fm_EX_st b x) hex q_1049 q_13 q_1047 q_1048 pd_Mo_within (c_Mo_within_ok ⟨nI_pos (by omega), hnltB (a := ln - 1) (c := k) (by omega) (by omega)⟩) ⟨rfl, rfl, Nat.le_of_ble_eq_true rfl, Nat.le_of_ble_eq_true rfl⟩ ⟨Nat.le_of_ble_eq_true rfl, Nat.le_of_ble_eq_true rfl⟩ d_Mo_message_13 (Nat.le_of_ble_eq_true rfl) (fun r n2 M2 hp => ?_)
  obtain ⟨rfl, hq1, hq2⟩ := hp
  replace hq1 := hq1.symm
  replace hq2 := hq2.symm
  subst hq1 hq2
  refine fm_cnt (z' := (0, 0)) rfl (fm_st (st' := [.int (nI 1)]) rfl ?_)
  refine fm_if_ne (tgt := 21) hc d_Mo_message_16 rfl (fun _ => ?_) (fun gQ => absurd gQ (by decide))
  refine fm_iload_n hc d_Mo_message_21 rfl rfl ?_
  refine fm_tableIn (off := 81) (tgt := 103) hc d_Mo_message_22 (by decide) (by decide) rfl rfl ?_
  refine fm_aload_n hc d_Mo_message_103 rfl rfl ?_
  refine fm_getR (k := 43) (q := 626) hc K_Mo d_Mo_message_104 q_928 rfl (by decide) (by omega) (by decide) (by decide) (by decide) rfl (rp_long1 hR) ?_
  refine fm_iload_n hc d_Mo_message_107 rfl rfl ?_
  refine fm_iald (j := k) (len := 21) hc 0 d_Mo_message_108 (by decide) (by omega) (by decide) rfl (by omega) (by decide) ?_
  refine fm_top (congrArg Value.int (show (fm_put1 M 586 0 (nI 0)).1 626 k = nI m0.2.2.2.2.2.length from ((o1 _ _ (by decide)).trans h.2.2.2.2.2.1))) ?_
  exact fm_iret hc hr d_Mo_message_109 (Nat.le_refl _) (Nat.le_refl _) ⟨rfl, rfl, rfl⟩
theorem r_msg_k {l : Launch} {b : Nat} {x : Nat → Nat} {D : va_G} {dA : Nat → ClassId} {k ln i : Nat}  {m0 : mg_T} {n : Nat} {M : fm_M} (hn : 629 ≤ n) (hR : fm_RP M) (hl : M.1 586 37 = nI ln) (hl20 : ln ≤ 20) (hk : k < ln) (h : hr_Wk M k m0) (hm : mg_ok m0) {b0 : Nat} (hi : m0.2.2.2.2.2[i]? = some b0) : Met l y_Mo_message (Cond.code y_Mo_message b_Mo_message 3 (some .int) :: fm_T0) ({ frames := 1, cells := 0, slots := 0, locals := 22 }) (fm_Pc fm_lay fm_nf fm_fk fm_cl b x D dA (fm_tys dA) (fm_EX b x) false [.ref 586, .int (nI k), .int (nI (10 + i))] n M) (fm_Qc fm_lay fm_nf fm_fk fm_cl b x D dA (fun r n' M' => r = some (.int (nI b0)) ∧ n' = n ∧ M' = fm_put1 M 586 0 (nI 0))) 0 0 (fm_A b) := by
  refine fm_enter (by decide) (Nat.le_of_ble_eq_true rfl) ?_
  intro p e s m args below meth c9 hc hr hnm hex htg
  obtain ⟨m1, m2, m3⟩ := hm
  have o1 : ∀ q i, q ≠ 586 → (fm_put1 M 586 0 (nI 0)).1 q i = M.1 q i := fun q i e => p1_other e
  have hkl : i < m0.2.2.2.2.2.length := by
    rcases Nat.lt_or_ge i m0.2.2.2.2.2.length with q | q
    · exact q
    · rw [List.getElem?_eq_none q] at hi; cases hi
  refine fm_aload_n hc d_Mo_message_0 rfl rfl ?_
  refine fm_iconst (v := nI 0) hc d_Mo_message_1 rfl ?_
  refine fm_putI (k := 0) (v := nI 0) hc K_Mo d_Mo_message_2 q_885 rfl (by decide) (by omega) (by decide) (by decide) (by decide) rfl rfl rfl rfl ?_
  refine fm_mem (M' := fm_put1 M 586 0 (nI 0)) rfl rfl ?_
  refine fm_iload_n hc d_Mo_message_5 rfl rfl ?_
  refine fm_iconst (v := nI 0) hc d_Mo_message_6 rfl ?_
  refine fm_aload_n hc d_Mo_message_7 rfl rfl ?_
  refine fm_getI (k := 37) hc K_Mo d_Mo_message_8 q_922 rfl (by decide) (by omega) (by decide) (by decide) (by decide) rfl ?_
  refine fm_top (congrArg Value.int (show (fm_put1 M 586 0 (nI 0)).1 586 37 = nI ln from ((p1_at (by decide)).trans hl))) ?_
  refine fm_iconst (v := nI 1) hc d_Mo_message_11 rfl ?_
  refine fm_isub hc d_Mo_message_12 ?_
  refine fm_top (congrArg Value.int (pk_sub (a := ln) (b := 1) (by omega))) ?_
  refine fm_callS (av := [.int (nI k), .int (nI 0), .int (nI (ln - 1))]) (rest := []) (y := y_Mo_within) (bytes := b_Mo_within) hc fm_T0_good (fm_EX_st b x) hex q_1049 q_13 q_1047 q_1048 pd_Mo_within (c_Mo_within_ok ⟨nI_pos (by omega), hnltB (a := ln - 1) (c := k) (by omega) (by omega)⟩) ⟨rfl, rfl, Nat.le_of_ble_eq_true rfl, Nat.le_of_ble_eq_true rfl⟩ ⟨Nat.le_of_ble_eq_true rfl, Nat.le_of_ble_eq_true rfl⟩ d_Mo_message_13 (Nat.le_of_ble_eq_true rfl) (fun r n2 M2 hp => ?_)
  obtain ⟨rfl, hq1, hq2⟩ := hp
  replace hq1 := hq1.symm
  replace hq2 := hq2.symm
  subst hq1 hq2
  refine fm_cnt (z' := (0, 0)) rfl (fm_st (st' := [.int (nI 1)]) rfl ?_)
  refine fm_if_ne (tgt := 21) hc d_Mo_message_16 rfl (fun _ => ?_) (fun gQ => absurd gQ (by decide))
  refine fm_iload_n hc d_Mo_message_21 rfl rfl ?_
  refine fm_tableOut (tgt := 110) hc d_Mo_message_22 (t10_out (c := 5) (by omega) (by decide)) rfl ?_
  refine fm_iload_n hc d_Mo_message_110 rfl rfl ?_
  refine fm_bipush (v := nI 10) hc d_Mo_message_111 rfl ?_
  refine fm_icmp_lt (tgt := 147) hc d_Mo_message_113 rfl (fun gQ => absurd gQ (t10_lt (by omega))) (fun _ => ?_)
  refine fm_iload_n hc d_Mo_message_116 rfl rfl ?_
  refine fm_bipush (v := nI 10) hc d_Mo_message_117 rfl ?_
  refine fm_isub hc d_Mo_message_119 ?_
  refine fm_top (congrArg Value.int (pk_sub (a := 10 + i) (b := 10) (by omega))) ?_
  refine fm_top (congrArg Value.int (show nI ((10 + i) - 10) = nI i from (congrArg nI (by omega)))) ?_
  refine fm_aload_n hc d_Mo_message_120 rfl rfl ?_
  refine fm_getR (k := 43) (q := 626) hc K_Mo d_Mo_message_121 q_928 rfl (by decide) (by omega) (by decide) (by decide) (by decide) rfl (rp_long1 hR) ?_
  refine fm_iload_n hc d_Mo_message_124 rfl rfl ?_
  refine fm_iald (j := k) (len := 21) hc 0 d_Mo_message_125 (by decide) (by omega) (by decide) rfl (by omega) (by decide) ?_
  refine fm_top (congrArg Value.int (show (fm_put1 M 586 0 (nI 0)).1 626 k = nI m0.2.2.2.2.2.length from ((o1 _ _ (by decide)).trans h.2.2.2.2.2.1))) ?_
  refine fm_icmp_ge (tgt := 147) hc d_Mo_message_126 rfl (fun gQ => absurd gQ (hnleB hkl (by omega))) (fun _ => ?_)
  refine fm_aload_n hc d_Mo_message_129 rfl rfl ?_
  refine fm_getR (k := 44) (q := 627) hc K_Mo d_Mo_message_130 q_929 rfl (by decide) (by omega) (by decide) (by decide) (by decide) rfl (rp_image hR) ?_
  refine fm_sipush (v := nI 128) hc d_Mo_message_133 rfl ?_
  refine fm_iload_n hc d_Mo_message_136 rfl rfl ?_
  refine fm_imul hc d_Mo_message_137 ?_
  refine fm_top (congrArg Value.int (pk_mul 128 k)) ?_
  refine fm_iload_n hc d_Mo_message_138 rfl rfl ?_
  refine fm_iadd hc d_Mo_message_139 ?_
  refine fm_top (congrArg Value.int (nI_add (128 * k) (10 + i))) ?_
  refine fm_bipush (v := nI 10) hc d_Mo_message_140 rfl ?_
  refine fm_isub hc d_Mo_message_142 ?_
  refine fm_top (congrArg Value.int (pk_sub (a := (128 * k) + (10 + i)) (b := 10) (by omega))) ?_
  refine fm_top (congrArg Value.int (show nI (((128 * k) + (10 + i)) - 10) = nI (128 * k + i) from (congrArg nI (by omega)))) ?_
  refine fm_iald (j := 128 * k + i) (len := 2688) hc 0 d_Mo_message_143 (by decide) (by omega) (by decide) rfl (by omega) (by decide) ?_
  refine fm_top (congrArg Value.int (show (fm_put1 M 586 0 (nI 0)).1 627 (128 * k + i) = nI b0 from ((o1 _ _ (by decide)).trans (h.2.2.2.2.2.2.2 i b0 hi)))) ?_
  refine fm_goto (tgt := 148) hc d_Mo_message_144 rfl ?_
  exact fm_iret hc hr d_Mo_message_148 (Nat.le_refl _) (Nat.le_refl _) ⟨rfl, rfl, rfl⟩
theorem r_msg_lo {l : Launch} {b : Nat} {x : Nat → Nat} {D : va_G} {dA : Nat → ClassId} {k ln : Nat} {u : Int32} {m0 : mg_T} {n : Nat} {M : fm_M} (hn : 629 ≤ n) (hR : fm_RP M) (hl : M.1 586 37 = nI ln) (hl20 : ln ≤ 20) (hk : k < ln) (h : hr_Wk M k m0) (hm : mg_ok m0) (ho : u.toInt < 0 ∨ 5 < u.toInt) (hu : u < nI 10) : Met l y_Mo_message (Cond.code y_Mo_message b_Mo_message 3 (some .int) :: fm_T0) ({ frames := 1, cells := 0, slots := 0, locals := 22 }) (fm_Pc fm_lay fm_nf fm_fk fm_cl b x D dA (fm_tys dA) (fm_EX b x) false [.ref 586, .int (nI k), .int u] n M) (fm_Qc fm_lay fm_nf fm_fk fm_cl b x D dA (fun r n' M' => r = some (.int (-1)) ∧ n' = n ∧ M' = fm_put1 M 586 0 (nI 0))) 0 0 (fm_A b) := by
  refine fm_enter (by decide) (Nat.le_of_ble_eq_true rfl) ?_
  intro p e s m args below meth c9 hc hr hnm hex htg
  obtain ⟨m1, m2, m3⟩ := hm
  have o1 : ∀ q i, q ≠ 586 → (fm_put1 M 586 0 (nI 0)).1 q i = M.1 q i := fun q i e => p1_other e
  refine fm_aload_n hc d_Mo_message_0 rfl rfl ?_
  refine fm_iconst (v := nI 0) hc d_Mo_message_1 rfl ?_
  refine fm_putI (k := 0) (v := nI 0) hc K_Mo d_Mo_message_2 q_885 rfl (by decide) (by omega) (by decide) (by decide) (by decide) rfl rfl rfl rfl ?_
  refine fm_mem (M' := fm_put1 M 586 0 (nI 0)) rfl rfl ?_
  refine fm_iload_n hc d_Mo_message_5 rfl rfl ?_
  refine fm_iconst (v := nI 0) hc d_Mo_message_6 rfl ?_
  refine fm_aload_n hc d_Mo_message_7 rfl rfl ?_
  refine fm_getI (k := 37) hc K_Mo d_Mo_message_8 q_922 rfl (by decide) (by omega) (by decide) (by decide) (by decide) rfl ?_
  refine fm_top (congrArg Value.int (show (fm_put1 M 586 0 (nI 0)).1 586 37 = nI ln from ((p1_at (by decide)).trans hl))) ?_
  refine fm_iconst (v := nI 1) hc d_Mo_message_11 rfl ?_
  refine fm_isub hc d_Mo_message_12 ?_
  refine fm_top (congrArg Value.int (pk_sub (a := ln) (b := 1) (by omega))) ?_
  refine fm_callS (av := [.int (nI k), .int (nI 0), .int (nI (ln - 1))]) (rest := []) (y := y_Mo_within) (bytes := b_Mo_within) hc fm_T0_good (fm_EX_st b x) hex q_1049 q_13 q_1047 q_1048 pd_Mo_within (c_Mo_within_ok ⟨nI_pos (by omega), hnltB (a := ln - 1) (c := k) (by omega) (by omega)⟩) ⟨rfl, rfl, Nat.le_of_ble_eq_true rfl, Nat.le_of_ble_eq_true rfl⟩ ⟨Nat.le_of_ble_eq_true rfl, Nat.le_of_ble_eq_true rfl⟩ d_Mo_message_13 (Nat.le_of_ble_eq_true rfl) (fun r n2 M2 hp => ?_)
  obtain ⟨rfl, hq1, hq2⟩ := hp
  replace hq1 := hq1.symm
  replace hq2 := hq2.symm
  subst hq1 hq2
  refine fm_cnt (z' := (0, 0)) rfl (fm_st (st' := [.int (nI 1)]) rfl ?_)
  refine fm_if_ne (tgt := 21) hc d_Mo_message_16 rfl (fun _ => ?_) (fun gQ => absurd gQ (by decide))
  refine fm_iload_n hc d_Mo_message_21 rfl rfl ?_
  refine fm_tableOut (tgt := 110) hc d_Mo_message_22 ho rfl ?_
  refine fm_iload_n hc d_Mo_message_110 rfl rfl ?_
  refine fm_bipush (v := nI 10) hc d_Mo_message_111 rfl ?_
  refine fm_icmp_lt (tgt := 147) hc d_Mo_message_113 rfl (fun _ => ?_) (fun gQ => absurd hu gQ)
  refine fm_iconst (v := (-1)) hc d_Mo_message_147 rfl ?_
  exact fm_iret hc hr d_Mo_message_148 (Nat.le_refl _) (Nat.le_refl _) ⟨rfl, rfl, rfl⟩
theorem r_msg_hi {l : Launch} {b : Nat} {x : Nat → Nat} {D : va_G} {dA : Nat → ClassId} {k ln : Nat} {u : Int32} {m0 : mg_T} {n : Nat} {M : fm_M} (hn : 629 ≤ n) (hR : fm_RP M) (hl : M.1 586 37 = nI ln) (hl20 : ln ≤ 20) (hk : k < ln) (h : hr_Wk M k m0) (hm : mg_ok m0) (ho : u.toInt < 0 ∨ 5 < u.toInt) (hu : ¬ u < nI 10) (hx : nI m0.2.2.2.2.2.length ≤ u - nI 10) : Met l y_Mo_message (Cond.code y_Mo_message b_Mo_message 3 (some .int) :: fm_T0) ({ frames := 1, cells := 0, slots := 0, locals := 22 }) (fm_Pc fm_lay fm_nf fm_fk fm_cl b x D dA (fm_tys dA) (fm_EX b x) false [.ref 586, .int (nI k), .int u] n M) (fm_Qc fm_lay fm_nf fm_fk fm_cl b x D dA (fun r n' M' => r = some (.int (-1)) ∧ n' = n ∧ M' = fm_put1 M 586 0 (nI 0))) 0 0 (fm_A b) := by
  refine fm_enter (by decide) (Nat.le_of_ble_eq_true rfl) ?_
  intro p e s m args below meth c9 hc hr hnm hex htg
  obtain ⟨m1, m2, m3⟩ := hm
  have o1 : ∀ q i, q ≠ 586 → (fm_put1 M 586 0 (nI 0)).1 q i = M.1 q i := fun q i e => p1_other e
  refine fm_aload_n hc d_Mo_message_0 rfl rfl ?_
  refine fm_iconst (v := nI 0) hc d_Mo_message_1 rfl ?_
  refine fm_putI (k := 0) (v := nI 0) hc K_Mo d_Mo_message_2 q_885 rfl (by decide) (by omega) (by decide) (by decide) (by decide) rfl rfl rfl rfl ?_
  refine fm_mem (M' := fm_put1 M 586 0 (nI 0)) rfl rfl ?_
  refine fm_iload_n hc d_Mo_message_5 rfl rfl ?_
  refine fm_iconst (v := nI 0) hc d_Mo_message_6 rfl ?_
  refine fm_aload_n hc d_Mo_message_7 rfl rfl ?_
  refine fm_getI (k := 37) hc K_Mo d_Mo_message_8 q_922 rfl (by decide) (by omega) (by decide) (by decide) (by decide) rfl ?_
  refine fm_top (congrArg Value.int (show (fm_put1 M 586 0 (nI 0)).1 586 37 = nI ln from ((p1_at (by decide)).trans hl))) ?_
  refine fm_iconst (v := nI 1) hc d_Mo_message_11 rfl ?_
  refine fm_isub hc d_Mo_message_12 ?_
  refine fm_top (congrArg Value.int (pk_sub (a := ln) (b := 1) (by omega))) ?_
  refine fm_callS (av := [.int (nI k), .int (nI 0), .int (nI (ln - 1))]) (rest := []) (y := y_Mo_within) (bytes := b_Mo_within) hc fm_T0_good (fm_EX_st b x) hex q_1049 q_13 q_1047 q_1048 pd_Mo_within (c_Mo_within_ok ⟨nI_pos (by omega), hnltB (a := ln - 1) (c := k) (by omega) (by omega)⟩) ⟨rfl, rfl, Nat.le_of_ble_eq_true rfl, Nat.le_of_ble_eq_true rfl⟩ ⟨Nat.le_of_ble_eq_true rfl, Nat.le_of_ble_eq_true rfl⟩ d_Mo_message_13 (Nat.le_of_ble_eq_true rfl) (fun r n2 M2 hp => ?_)
  obtain ⟨rfl, hq1, hq2⟩ := hp
  replace hq1 := hq1.symm
  replace hq2 := hq2.symm
  subst hq1 hq2
  refine fm_cnt (z' := (0, 0)) rfl (fm_st (st' := [.int (nI 1)]) rfl ?_)
  refine fm_if_ne (tgt := 21) hc d_Mo_message_16 rfl (fun _ => ?_) (fun gQ => absurd gQ (by decide))
  refine fm_iload_n hc d_Mo_message_21 rfl rfl ?_
  refine fm_tableOut (tgt := 110) hc d_Mo_message_22 ho rfl ?_
  refine fm_iload_n hc d_Mo_message_110 rfl rfl ?_
  refine fm_bipush (v := nI 10) hc d_Mo_message_111 rfl ?_
  refine fm_icmp_lt (tgt := 147) hc d_Mo_message_113 rfl (fun gQ => absurd gQ hu) (fun _ => ?_)
  refine fm_iload_n hc d_Mo_message_116 rfl rfl ?_
  refine fm_bipush (v := nI 10) hc d_Mo_message_117 rfl ?_
  refine fm_isub hc d_Mo_message_119 ?_
  refine fm_aload_n hc d_Mo_message_120 rfl rfl ?_
  refine fm_getR (k := 43) (q := 626) hc K_Mo d_Mo_message_121 q_928 rfl (by decide) (by omega) (by decide) (by decide) (by decide) rfl (rp_long1 hR) ?_
  refine fm_iload_n hc d_Mo_message_124 rfl rfl ?_
  refine fm_iald (j := k) (len := 21) hc 0 d_Mo_message_125 (by decide) (by omega) (by decide) rfl (by omega) (by decide) ?_
  refine fm_top (congrArg Value.int (show (fm_put1 M 586 0 (nI 0)).1 626 k = nI m0.2.2.2.2.2.length from ((o1 _ _ (by decide)).trans h.2.2.2.2.2.1))) ?_
  refine fm_icmp_ge (tgt := 147) hc d_Mo_message_126 rfl (fun _ => ?_) (fun gQ => absurd hx gQ)
  refine fm_iconst (v := (-1)) hc d_Mo_message_147 rfl ?_
  exact fm_iret hc hr d_Mo_message_148 (Nat.le_refl _) (Nat.le_refl _) ⟨rfl, rfl, rfl⟩
theorem r_agt_0 {l : Launch} {b : Nat} {x : Nat → Nat} {D : va_G} {dA : Nat → ClassId} {j a sl : Nat}  {A : ag_T} {g : Nat → Nat} {n : Nat} {M : fm_M} (hn : 629 ≤ n) (hR : fm_RP M) (hj : j < 4) (ha : a < 8) (hu : ¬ M.1 595 j = 0) (hs : M.1 597 (24 * j + a) = nI sl) (hs4 : sl ≤ 4) (h0 : ¬ sl = 0) (h : hr_G M (24 * j + a) F_m A g) (ok : ag_ok A) : Met l y_Mo_agent (Cond.code y_Mo_agent b_Mo_agent 5 (some .int) :: fm_T0) ({ frames := 3, cells := 0, slots := 0, locals := 70 }) (fm_Pc fm_lay fm_nf fm_fk fm_cl b x D dA (fm_tys dA) (fm_EX b x) false [.ref 586, .int (nI j), .int (nI a), .int (nI 0)] n M) (fm_Qc fm_lay fm_nf fm_fk fm_cl b x D dA (fun r n' M' => r = some (.int (nI (A.1 2))) ∧ n' = n ∧ M' = fm_put1 M 586 0 (nI 0))) 0 0 (fm_A b) := by
  refine fm_enter (by decide) (Nat.le_of_ble_eq_true rfl) ?_
  intro p e s m args below meth c9 hc hr hnm hex htg
  have ok1 := ok.1
  have o1 : ∀ q i, q ≠ 586 → (fm_put1 M 586 0 (nI 0)).1 q i = M.1 q i := fun q i e => p1_other e
  refine fm_aload_n hc d_Mo_agent_0 rfl rfl ?_
  refine fm_iconst (v := nI 0) hc d_Mo_agent_1 rfl ?_
  refine fm_putI (k := 0) (v := nI 0) hc K_Mo d_Mo_agent_2 q_885 rfl (by decide) (by omega) (by decide) (by decide) (by decide) rfl rfl rfl rfl ?_
  refine fm_mem (M' := fm_put1 M 586 0 (nI 0)) rfl rfl ?_
  refine fm_iload_n hc d_Mo_agent_5 rfl rfl ?_
  refine fm_iconst (v := nI 0) hc d_Mo_agent_6 rfl ?_
  refine fm_iconst (v := nI 3) hc d_Mo_agent_7 rfl ?_
  refine fm_callS (av := [.int (nI j), .int (nI 0), .int (nI 3)]) (rest := []) (y := y_Mo_within) (bytes := b_Mo_within) hc fm_T0_good (fm_EX_st b x) hex q_1049 q_13 q_1047 q_1048 pd_Mo_within (c_Mo_within_ok (wi_of4 (in4_of hj))) ⟨rfl, rfl, Nat.le_of_ble_eq_true rfl, Nat.le_of_ble_eq_true rfl⟩ ⟨Nat.le_of_ble_eq_true rfl, Nat.le_of_ble_eq_true rfl⟩ d_Mo_agent_8 (Nat.le_of_ble_eq_true rfl) (fun r n2 M2 hp => ?_)
  obtain ⟨rfl, hq1, hq2⟩ := hp
  replace hq1 := hq1.symm
  replace hq2 := hq2.symm
  subst hq1 hq2
  refine fm_cnt (z' := (0, 0)) rfl (fm_st (st' := [.int (nI 1)]) rfl ?_)
  refine fm_if_eq (tgt := 47) hc d_Mo_agent_11 rfl (fun gQ => absurd gQ (by decide)) (fun _ => ?_)
  refine fm_iload_n hc d_Mo_agent_14 rfl rfl ?_
  refine fm_iconst (v := nI 0) hc d_Mo_agent_15 rfl ?_
  refine fm_bipush (v := nI 7) hc d_Mo_agent_16 rfl ?_
  refine fm_callS (av := [.int (nI a), .int (nI 0), .int (nI 7)]) (rest := []) (y := y_Mo_within) (bytes := b_Mo_within) hc fm_T0_good (fm_EX_st b x) hex q_1049 q_13 q_1047 q_1048 pd_Mo_within (c_Mo_within_ok (wi_of8 (in8_of ha))) ⟨rfl, rfl, Nat.le_of_ble_eq_true rfl, Nat.le_of_ble_eq_true rfl⟩ ⟨Nat.le_of_ble_eq_true rfl, Nat.le_of_ble_eq_true rfl⟩ d_Mo_agent_18 (Nat.le_of_ble_eq_true rfl) (fun r n2 M2 hp => ?_)
  obtain ⟨rfl, hq1, hq2⟩ := hp
  replace hq1 := hq1.symm
  replace hq2 := hq2.symm
  subst hq1 hq2
  refine fm_cnt (z' := (0, 0)) rfl (fm_st (st' := [.int (nI 1)]) rfl ?_)
  refine fm_if_eq (tgt := 47) hc d_Mo_agent_21 rfl (fun gQ => absurd gQ (by decide)) (fun _ => ?_)
  refine fm_aload_n hc d_Mo_agent_24 rfl rfl ?_
  refine fm_getR (k := 10) (q := 595) hc K_Mo d_Mo_agent_25 q_895 rfl (by decide) (by omega) (by decide) (by decide) (by decide) rfl (rp_up hR) ?_
  refine fm_iload_n hc d_Mo_agent_28 rfl rfl ?_
  refine fm_zald (j := j) (len := 4) hc 1 d_Mo_agent_29 (by decide) (by omega) (by decide) rfl (by omega) (by decide) ?_
  refine fm_if_eq (tgt := 47) hc d_Mo_agent_30 rfl (fun gQ => absurd gQ hu) (fun _ => ?_)
  refine fm_aload_n hc d_Mo_agent_33 rfl rfl ?_
  refine fm_getR (k := 12) (q := 597) hc K_Mo d_Mo_agent_34 q_897 rfl (by decide) (by omega) (by decide) (by decide) (by decide) rfl (rp_slot hR) ?_
  refine fm_bipush (v := nI 24) hc d_Mo_agent_37 rfl ?_
  refine fm_iload_n hc d_Mo_agent_39 rfl rfl ?_
  refine fm_imul hc d_Mo_agent_40 ?_
  refine fm_top (congrArg Value.int (pk_mul 24 j)) ?_
  refine fm_iload_n hc d_Mo_agent_41 rfl rfl ?_
  refine fm_iadd hc d_Mo_agent_42 ?_
  refine fm_top (congrArg Value.int (nI_add (24 * j) a)) ?_
  refine fm_iald (j := (24 * j) + a) (len := 96) hc 0 d_Mo_agent_43 (by decide) (by omega) (by decide) rfl (by omega) (by decide) ?_
  refine fm_top (congrArg Value.int (show (fm_put1 M 586 0 (nI 0)).1 597 ((24 * j) + a) = nI sl from ((o1 _ _ (by decide)).trans hs))) ?_
  refine fm_if_ne (tgt := 49) hc d_Mo_agent_44 rfl (fun _ => ?_) (fun gQ => absurd gQ (fun e => h0 (nI_inj (c := 0) (by omega) (by decide) e)))
  refine fm_bipush (v := nI 24) hc d_Mo_agent_49 rfl ?_
  refine fm_iload_n hc d_Mo_agent_51 rfl rfl ?_
  refine fm_imul hc d_Mo_agent_52 ?_
  refine fm_top (congrArg Value.int (pk_mul 24 j)) ?_
  refine fm_iload_n hc d_Mo_agent_53 rfl rfl ?_
  refine fm_iadd hc d_Mo_agent_54 ?_
  refine fm_top (congrArg Value.int (nI_add (24 * j) a)) ?_
  refine fm_istore (lv' := [(4, .int (nI ((24 * j) + a))), (0, .ref 586), (1, .int (nI j)), (2, .int (nI a)), (3, .int (nI 0))]) hc d_Mo_agent_55 (by decide) rfl ?_
  refine fm_iload_n hc d_Mo_agent_57 rfl rfl ?_
  refine fm_tableIn (off := 42) (tgt := 100) hc d_Mo_agent_58 (by decide) (by decide) rfl rfl ?_
  refine fm_aload_n hc d_Mo_agent_100 rfl rfl ?_
  refine fm_getR (k := 21) (q := 606) hc K_Mo d_Mo_agent_101 q_906 rfl (by decide) (by omega) (by decide) (by decide) (by decide) rfl (rp_place hR) ?_
  refine fm_iload hc d_Mo_agent_104 rfl ?_
  refine fm_iald (j := (24 * j) + a) (len := 98) hc 0 d_Mo_agent_106 (by decide) (by omega) (by decide) rfl (by omega) (by decide) ?_
  refine fm_top (congrArg Value.int (show (fm_put1 M 586 0 (nI 0)).1 606 ((24 * j) + a) = nI (A.1 2) from ((o1 _ _ (by decide)).trans (h.1 2 (by decide) (by decide) trivial)))) ?_
  exact fm_iret hc hr d_Mo_agent_107 (Nat.le_refl _) (Nat.le_refl _) ⟨rfl, rfl, rfl⟩
theorem r_agt_1 {l : Launch} {b : Nat} {x : Nat → Nat} {D : va_G} {dA : Nat → ClassId} {j a sl : Nat}  {A : ag_T} {g : Nat → Nat} {n : Nat} {M : fm_M} (hn : 629 ≤ n) (hR : fm_RP M) (hj : j < 4) (ha : a < 8) (hu : ¬ M.1 595 j = 0) (hs : M.1 597 (24 * j + a) = nI sl) (hs4 : sl ≤ 4) (h0 : ¬ sl = 0) (h : hr_G M (24 * j + a) F_m A g) (ok : ag_ok A) : Met l y_Mo_agent (Cond.code y_Mo_agent b_Mo_agent 5 (some .int) :: fm_T0) ({ frames := 3, cells := 0, slots := 0, locals := 70 }) (fm_Pc fm_lay fm_nf fm_fk fm_cl b x D dA (fm_tys dA) (fm_EX b x) false [.ref 586, .int (nI j), .int (nI a), .int (nI 1)] n M) (fm_Qc fm_lay fm_nf fm_fk fm_cl b x D dA (fun r n' M' => r = some (.int (nI (A.1 4))) ∧ n' = n ∧ M' = fm_put1 M 586 0 (nI 0))) 0 0 (fm_A b) := by
  refine fm_enter (by decide) (Nat.le_of_ble_eq_true rfl) ?_
  intro p e s m args below meth c9 hc hr hnm hex htg
  have ok1 := ok.1
  have o1 : ∀ q i, q ≠ 586 → (fm_put1 M 586 0 (nI 0)).1 q i = M.1 q i := fun q i e => p1_other e
  refine fm_aload_n hc d_Mo_agent_0 rfl rfl ?_
  refine fm_iconst (v := nI 0) hc d_Mo_agent_1 rfl ?_
  refine fm_putI (k := 0) (v := nI 0) hc K_Mo d_Mo_agent_2 q_885 rfl (by decide) (by omega) (by decide) (by decide) (by decide) rfl rfl rfl rfl ?_
  refine fm_mem (M' := fm_put1 M 586 0 (nI 0)) rfl rfl ?_
  refine fm_iload_n hc d_Mo_agent_5 rfl rfl ?_
  refine fm_iconst (v := nI 0) hc d_Mo_agent_6 rfl ?_
  refine fm_iconst (v := nI 3) hc d_Mo_agent_7 rfl ?_
  refine fm_callS (av := [.int (nI j), .int (nI 0), .int (nI 3)]) (rest := []) (y := y_Mo_within) (bytes := b_Mo_within) hc fm_T0_good (fm_EX_st b x) hex q_1049 q_13 q_1047 q_1048 pd_Mo_within (c_Mo_within_ok (wi_of4 (in4_of hj))) ⟨rfl, rfl, Nat.le_of_ble_eq_true rfl, Nat.le_of_ble_eq_true rfl⟩ ⟨Nat.le_of_ble_eq_true rfl, Nat.le_of_ble_eq_true rfl⟩ d_Mo_agent_8 (Nat.le_of_ble_eq_true rfl) (fun r n2 M2 hp => ?_)
  obtain ⟨rfl, hq1, hq2⟩ := hp
  replace hq1 := hq1.symm
  replace hq2 := hq2.symm
  subst hq1 hq2
  refine fm_cnt (z' := (0, 0)) rfl (fm_st (st' := [.int (nI 1)]) rfl ?_)
  refine fm_if_eq (tgt := 47) hc d_Mo_agent_11 rfl (fun gQ => absurd gQ (by decide)) (fun _ => ?_)
  refine fm_iload_n hc d_Mo_agent_14 rfl rfl ?_
  refine fm_iconst (v := nI 0) hc d_Mo_agent_15 rfl ?_
  refine fm_bipush (v := nI 7) hc d_Mo_agent_16 rfl ?_
  refine fm_callS (av := [.int (nI a), .int (nI 0), .int (nI 7)]) (rest := []) (y := y_Mo_within) (bytes := b_Mo_within) hc fm_T0_good (fm_EX_st b x) hex q_1049 q_13 q_1047 q_1048 pd_Mo_within (c_Mo_within_ok (wi_of8 (in8_of ha))) ⟨rfl, rfl, Nat.le_of_ble_eq_true rfl, Nat.le_of_ble_eq_true rfl⟩ ⟨Nat.le_of_ble_eq_true rfl, Nat.le_of_ble_eq_true rfl⟩ d_Mo_agent_18 (Nat.le_of_ble_eq_true rfl) (fun r n2 M2 hp => ?_)
  obtain ⟨rfl, hq1, hq2⟩ := hp
  replace hq1 := hq1.symm
  replace hq2 := hq2.symm
  subst hq1 hq2
  refine fm_cnt (z' := (0, 0)) rfl (fm_st (st' := [.int (nI 1)]) rfl ?_)
  refine fm_if_eq (tgt := 47) hc d_Mo_agent_21 rfl (fun gQ => absurd gQ (by decide)) (fun _ => ?_)
  refine fm_aload_n hc d_Mo_agent_24 rfl rfl ?_
  refine fm_getR (k := 10) (q := 595) hc K_Mo d_Mo_agent_25 q_895 rfl (by decide) (by omega) (by decide) (by decide) (by decide) rfl (rp_up hR) ?_
  refine fm_iload_n hc d_Mo_agent_28 rfl rfl ?_
  refine fm_zald (j := j) (len := 4) hc 1 d_Mo_agent_29 (by decide) (by omega) (by decide) rfl (by omega) (by decide) ?_
  refine fm_if_eq (tgt := 47) hc d_Mo_agent_30 rfl (fun gQ => absurd gQ hu) (fun _ => ?_)
  refine fm_aload_n hc d_Mo_agent_33 rfl rfl ?_
  refine fm_getR (k := 12) (q := 597) hc K_Mo d_Mo_agent_34 q_897 rfl (by decide) (by omega) (by decide) (by decide) (by decide) rfl (rp_slot hR) ?_
  refine fm_bipush (v := nI 24) hc d_Mo_agent_37 rfl ?_
  refine fm_iload_n hc d_Mo_agent_39 rfl rfl ?_
  refine fm_imul hc d_Mo_agent_40 ?_
  refine fm_top (congrArg Value.int (pk_mul 24 j)) ?_
  refine fm_iload_n hc d_Mo_agent_41 rfl rfl ?_
  refine fm_iadd hc d_Mo_agent_42 ?_
  refine fm_top (congrArg Value.int (nI_add (24 * j) a)) ?_
  refine fm_iald (j := (24 * j) + a) (len := 96) hc 0 d_Mo_agent_43 (by decide) (by omega) (by decide) rfl (by omega) (by decide) ?_
  refine fm_top (congrArg Value.int (show (fm_put1 M 586 0 (nI 0)).1 597 ((24 * j) + a) = nI sl from ((o1 _ _ (by decide)).trans hs))) ?_
  refine fm_if_ne (tgt := 49) hc d_Mo_agent_44 rfl (fun _ => ?_) (fun gQ => absurd gQ (fun e => h0 (nI_inj (c := 0) (by omega) (by decide) e)))
  refine fm_bipush (v := nI 24) hc d_Mo_agent_49 rfl ?_
  refine fm_iload_n hc d_Mo_agent_51 rfl rfl ?_
  refine fm_imul hc d_Mo_agent_52 ?_
  refine fm_top (congrArg Value.int (pk_mul 24 j)) ?_
  refine fm_iload_n hc d_Mo_agent_53 rfl rfl ?_
  refine fm_iadd hc d_Mo_agent_54 ?_
  refine fm_top (congrArg Value.int (nI_add (24 * j) a)) ?_
  refine fm_istore (lv' := [(4, .int (nI ((24 * j) + a))), (0, .ref 586), (1, .int (nI j)), (2, .int (nI a)), (3, .int (nI 1))]) hc d_Mo_agent_55 (by decide) rfl ?_
  refine fm_iload_n hc d_Mo_agent_57 rfl rfl ?_
  refine fm_tableIn (off := 50) (tgt := 108) hc d_Mo_agent_58 (by decide) (by decide) rfl rfl ?_
  refine fm_aload_n hc d_Mo_agent_108 rfl rfl ?_
  refine fm_getR (k := 23) (q := 608) hc K_Mo d_Mo_agent_109 q_908 rfl (by decide) (by omega) (by decide) (by decide) (by decide) rfl (rp_hops hR) ?_
  refine fm_iload hc d_Mo_agent_112 rfl ?_
  refine fm_iald (j := (24 * j) + a) (len := 98) hc 0 d_Mo_agent_114 (by decide) (by omega) (by decide) rfl (by omega) (by decide) ?_
  refine fm_top (congrArg Value.int (show (fm_put1 M 586 0 (nI 0)).1 608 ((24 * j) + a) = nI (A.1 4) from ((o1 _ _ (by decide)).trans (h.1 4 (by decide) (by decide) trivial)))) ?_
  exact fm_iret hc hr d_Mo_agent_115 (Nat.le_refl _) (Nat.le_refl _) ⟨rfl, rfl, rfl⟩
theorem r_agt_2 {l : Launch} {b : Nat} {x : Nat → Nat} {D : va_G} {dA : Nat → ClassId} {j a sl : Nat}  {A : ag_T} {g : Nat → Nat} {n : Nat} {M : fm_M} (hn : 629 ≤ n) (hR : fm_RP M) (hj : j < 4) (ha : a < 8) (hu : ¬ M.1 595 j = 0) (hs : M.1 597 (24 * j + a) = nI sl) (hs4 : sl ≤ 4) (h0 : ¬ sl = 0) (h : hr_G M (24 * j + a) F_m A g) (ok : ag_ok A) : Met l y_Mo_agent (Cond.code y_Mo_agent b_Mo_agent 5 (some .int) :: fm_T0) ({ frames := 3, cells := 0, slots := 0, locals := 70 }) (fm_Pc fm_lay fm_nf fm_fk fm_cl b x D dA (fm_tys dA) (fm_EX b x) false [.ref 586, .int (nI j), .int (nI a), .int (nI 2)] n M) (fm_Qc fm_lay fm_nf fm_fk fm_cl b x D dA (fun r n' M' => r = some (.int (nI (A.1 3))) ∧ n' = n ∧ M' = fm_put1 M 586 0 (nI 0))) 0 0 (fm_A b) := by
  refine fm_enter (by decide) (Nat.le_of_ble_eq_true rfl) ?_
  intro p e s m args below meth c9 hc hr hnm hex htg
  have ok1 := ok.1
  have o1 : ∀ q i, q ≠ 586 → (fm_put1 M 586 0 (nI 0)).1 q i = M.1 q i := fun q i e => p1_other e
  refine fm_aload_n hc d_Mo_agent_0 rfl rfl ?_
  refine fm_iconst (v := nI 0) hc d_Mo_agent_1 rfl ?_
  refine fm_putI (k := 0) (v := nI 0) hc K_Mo d_Mo_agent_2 q_885 rfl (by decide) (by omega) (by decide) (by decide) (by decide) rfl rfl rfl rfl ?_
  refine fm_mem (M' := fm_put1 M 586 0 (nI 0)) rfl rfl ?_
  refine fm_iload_n hc d_Mo_agent_5 rfl rfl ?_
  refine fm_iconst (v := nI 0) hc d_Mo_agent_6 rfl ?_
  refine fm_iconst (v := nI 3) hc d_Mo_agent_7 rfl ?_
  refine fm_callS (av := [.int (nI j), .int (nI 0), .int (nI 3)]) (rest := []) (y := y_Mo_within) (bytes := b_Mo_within) hc fm_T0_good (fm_EX_st b x) hex q_1049 q_13 q_1047 q_1048 pd_Mo_within (c_Mo_within_ok (wi_of4 (in4_of hj))) ⟨rfl, rfl, Nat.le_of_ble_eq_true rfl, Nat.le_of_ble_eq_true rfl⟩ ⟨Nat.le_of_ble_eq_true rfl, Nat.le_of_ble_eq_true rfl⟩ d_Mo_agent_8 (Nat.le_of_ble_eq_true rfl) (fun r n2 M2 hp => ?_)
  obtain ⟨rfl, hq1, hq2⟩ := hp
  replace hq1 := hq1.symm
  replace hq2 := hq2.symm
  subst hq1 hq2
  refine fm_cnt (z' := (0, 0)) rfl (fm_st (st' := [.int (nI 1)]) rfl ?_)
  refine fm_if_eq (tgt := 47) hc d_Mo_agent_11 rfl (fun gQ => absurd gQ (by decide)) (fun _ => ?_)
  refine fm_iload_n hc d_Mo_agent_14 rfl rfl ?_
  refine fm_iconst (v := nI 0) hc d_Mo_agent_15 rfl ?_
  refine fm_bipush (v := nI 7) hc d_Mo_agent_16 rfl ?_
  refine fm_callS (av := [.int (nI a), .int (nI 0), .int (nI 7)]) (rest := []) (y := y_Mo_within) (bytes := b_Mo_within) hc fm_T0_good (fm_EX_st b x) hex q_1049 q_13 q_1047 q_1048 pd_Mo_within (c_Mo_within_ok (wi_of8 (in8_of ha))) ⟨rfl, rfl, Nat.le_of_ble_eq_true rfl, Nat.le_of_ble_eq_true rfl⟩ ⟨Nat.le_of_ble_eq_true rfl, Nat.le_of_ble_eq_true rfl⟩ d_Mo_agent_18 (Nat.le_of_ble_eq_true rfl) (fun r n2 M2 hp => ?_)
  obtain ⟨rfl, hq1, hq2⟩ := hp
  replace hq1 := hq1.symm
  replace hq2 := hq2.symm
  subst hq1 hq2
  refine fm_cnt (z' := (0, 0)) rfl (fm_st (st' := [.int (nI 1)]) rfl ?_)
  refine fm_if_eq (tgt := 47) hc d_Mo_agent_21 rfl (fun gQ => absurd gQ (by decide)) (fun _ => ?_)
  refine fm_aload_n hc d_Mo_agent_24 rfl rfl ?_
  refine fm_getR (k := 10) (q := 595) hc K_Mo d_Mo_agent_25 q_895 rfl (by decide) (by omega) (by decide) (by decide) (by decide) rfl (rp_up hR) ?_
  refine fm_iload_n hc d_Mo_agent_28 rfl rfl ?_
  refine fm_zald (j := j) (len := 4) hc 1 d_Mo_agent_29 (by decide) (by omega) (by decide) rfl (by omega) (by decide) ?_
  refine fm_if_eq (tgt := 47) hc d_Mo_agent_30 rfl (fun gQ => absurd gQ hu) (fun _ => ?_)
  refine fm_aload_n hc d_Mo_agent_33 rfl rfl ?_
  refine fm_getR (k := 12) (q := 597) hc K_Mo d_Mo_agent_34 q_897 rfl (by decide) (by omega) (by decide) (by decide) (by decide) rfl (rp_slot hR) ?_
  refine fm_bipush (v := nI 24) hc d_Mo_agent_37 rfl ?_
  refine fm_iload_n hc d_Mo_agent_39 rfl rfl ?_
  refine fm_imul hc d_Mo_agent_40 ?_
  refine fm_top (congrArg Value.int (pk_mul 24 j)) ?_
  refine fm_iload_n hc d_Mo_agent_41 rfl rfl ?_
  refine fm_iadd hc d_Mo_agent_42 ?_
  refine fm_top (congrArg Value.int (nI_add (24 * j) a)) ?_
  refine fm_iald (j := (24 * j) + a) (len := 96) hc 0 d_Mo_agent_43 (by decide) (by omega) (by decide) rfl (by omega) (by decide) ?_
  refine fm_top (congrArg Value.int (show (fm_put1 M 586 0 (nI 0)).1 597 ((24 * j) + a) = nI sl from ((o1 _ _ (by decide)).trans hs))) ?_
  refine fm_if_ne (tgt := 49) hc d_Mo_agent_44 rfl (fun _ => ?_) (fun gQ => absurd gQ (fun e => h0 (nI_inj (c := 0) (by omega) (by decide) e)))
  refine fm_bipush (v := nI 24) hc d_Mo_agent_49 rfl ?_
  refine fm_iload_n hc d_Mo_agent_51 rfl rfl ?_
  refine fm_imul hc d_Mo_agent_52 ?_
  refine fm_top (congrArg Value.int (pk_mul 24 j)) ?_
  refine fm_iload_n hc d_Mo_agent_53 rfl rfl ?_
  refine fm_iadd hc d_Mo_agent_54 ?_
  refine fm_top (congrArg Value.int (nI_add (24 * j) a)) ?_
  refine fm_istore (lv' := [(4, .int (nI ((24 * j) + a))), (0, .ref 586), (1, .int (nI j)), (2, .int (nI a)), (3, .int (nI 2))]) hc d_Mo_agent_55 (by decide) rfl ?_
  refine fm_iload_n hc d_Mo_agent_57 rfl rfl ?_
  refine fm_tableIn (off := 58) (tgt := 116) hc d_Mo_agent_58 (by decide) (by decide) rfl rfl ?_
  refine fm_aload_n hc d_Mo_agent_116 rfl rfl ?_
  refine fm_getR (k := 22) (q := 607) hc K_Mo d_Mo_agent_117 q_907 rfl (by decide) (by omega) (by decide) (by decide) (by decide) rfl (rp_fuel hR) ?_
  refine fm_iload hc d_Mo_agent_120 rfl ?_
  refine fm_iald (j := (24 * j) + a) (len := 98) hc 0 d_Mo_agent_122 (by decide) (by omega) (by decide) rfl (by omega) (by decide) ?_
  refine fm_top (congrArg Value.int (show (fm_put1 M 586 0 (nI 0)).1 607 ((24 * j) + a) = nI (A.1 3) from ((o1 _ _ (by decide)).trans (h.1 3 (by decide) (by decide) trivial)))) ?_
  exact fm_iret hc hr d_Mo_agent_123 (Nat.le_refl _) (Nat.le_refl _) ⟨rfl, rfl, rfl⟩
theorem r_agt_3 {l : Launch} {b : Nat} {x : Nat → Nat} {D : va_G} {dA : Nat → ClassId} {j a sl : Nat}  {A : ag_T} {g : Nat → Nat} {n : Nat} {M : fm_M} (hn : 629 ≤ n) (hR : fm_RP M) (hj : j < 4) (ha : a < 8) (hu : ¬ M.1 595 j = 0) (hs : M.1 597 (24 * j + a) = nI sl) (hs4 : sl ≤ 4) (h0 : ¬ sl = 0) (h : hr_G M (24 * j + a) F_m A g) (ok : ag_ok A) : Met l y_Mo_agent (Cond.code y_Mo_agent b_Mo_agent 5 (some .int) :: fm_T0) ({ frames := 3, cells := 0, slots := 0, locals := 70 }) (fm_Pc fm_lay fm_nf fm_fk fm_cl b x D dA (fm_tys dA) (fm_EX b x) false [.ref 586, .int (nI j), .int (nI a), .int (nI 3)] n M) (fm_Qc fm_lay fm_nf fm_fk fm_cl b x D dA (fun r n' M' => r = some (.int (nI (A.1 5))) ∧ n' = n ∧ M' = fm_put1 M 586 0 (nI 0))) 0 0 (fm_A b) := by
  refine fm_enter (by decide) (Nat.le_of_ble_eq_true rfl) ?_
  intro p e s m args below meth c9 hc hr hnm hex htg
  have ok1 := ok.1
  have o1 : ∀ q i, q ≠ 586 → (fm_put1 M 586 0 (nI 0)).1 q i = M.1 q i := fun q i e => p1_other e
  refine fm_aload_n hc d_Mo_agent_0 rfl rfl ?_
  refine fm_iconst (v := nI 0) hc d_Mo_agent_1 rfl ?_
  refine fm_putI (k := 0) (v := nI 0) hc K_Mo d_Mo_agent_2 q_885 rfl (by decide) (by omega) (by decide) (by decide) (by decide) rfl rfl rfl rfl ?_
  refine fm_mem (M' := fm_put1 M 586 0 (nI 0)) rfl rfl ?_
  refine fm_iload_n hc d_Mo_agent_5 rfl rfl ?_
  refine fm_iconst (v := nI 0) hc d_Mo_agent_6 rfl ?_
  refine fm_iconst (v := nI 3) hc d_Mo_agent_7 rfl ?_
  refine fm_callS (av := [.int (nI j), .int (nI 0), .int (nI 3)]) (rest := []) (y := y_Mo_within) (bytes := b_Mo_within) hc fm_T0_good (fm_EX_st b x) hex q_1049 q_13 q_1047 q_1048 pd_Mo_within (c_Mo_within_ok (wi_of4 (in4_of hj))) ⟨rfl, rfl, Nat.le_of_ble_eq_true rfl, Nat.le_of_ble_eq_true rfl⟩ ⟨Nat.le_of_ble_eq_true rfl, Nat.le_of_ble_eq_true rfl⟩ d_Mo_agent_8 (Nat.le_of_ble_eq_true rfl) (fun r n2 M2 hp => ?_)
  obtain ⟨rfl, hq1, hq2⟩ := hp
  replace hq1 := hq1.symm
  replace hq2 := hq2.symm
  subst hq1 hq2
  refine fm_cnt (z' := (0, 0)) rfl (fm_st (st' := [.int (nI 1)]) rfl ?_)
  refine fm_if_eq (tgt := 47) hc d_Mo_agent_11 rfl (fun gQ => absurd gQ (by decide)) (fun _ => ?_)
  refine fm_iload_n hc d_Mo_agent_14 rfl rfl ?_
  refine fm_iconst (v := nI 0) hc d_Mo_agent_15 rfl ?_
  refine fm_bipush (v := nI 7) hc d_Mo_agent_16 rfl ?_
  refine fm_callS (av := [.int (nI a), .int (nI 0), .int (nI 7)]) (rest := []) (y := y_Mo_within) (bytes := b_Mo_within) hc fm_T0_good (fm_EX_st b x) hex q_1049 q_13 q_1047 q_1048 pd_Mo_within (c_Mo_within_ok (wi_of8 (in8_of ha))) ⟨rfl, rfl, Nat.le_of_ble_eq_true rfl, Nat.le_of_ble_eq_true rfl⟩ ⟨Nat.le_of_ble_eq_true rfl, Nat.le_of_ble_eq_true rfl⟩ d_Mo_agent_18 (Nat.le_of_ble_eq_true rfl) (fun r n2 M2 hp => ?_)
  obtain ⟨rfl, hq1, hq2⟩ := hp
  replace hq1 := hq1.symm
  replace hq2 := hq2.symm
  subst hq1 hq2
  refine fm_cnt (z' := (0, 0)) rfl (fm_st (st' := [.int (nI 1)]) rfl ?_)
  refine fm_if_eq (tgt := 47) hc d_Mo_agent_21 rfl (fun gQ => absurd gQ (by decide)) (fun _ => ?_)
  refine fm_aload_n hc d_Mo_agent_24 rfl rfl ?_
  refine fm_getR (k := 10) (q := 595) hc K_Mo d_Mo_agent_25 q_895 rfl (by decide) (by omega) (by decide) (by decide) (by decide) rfl (rp_up hR) ?_
  refine fm_iload_n hc d_Mo_agent_28 rfl rfl ?_
  refine fm_zald (j := j) (len := 4) hc 1 d_Mo_agent_29 (by decide) (by omega) (by decide) rfl (by omega) (by decide) ?_
  refine fm_if_eq (tgt := 47) hc d_Mo_agent_30 rfl (fun gQ => absurd gQ hu) (fun _ => ?_)
  refine fm_aload_n hc d_Mo_agent_33 rfl rfl ?_
  refine fm_getR (k := 12) (q := 597) hc K_Mo d_Mo_agent_34 q_897 rfl (by decide) (by omega) (by decide) (by decide) (by decide) rfl (rp_slot hR) ?_
  refine fm_bipush (v := nI 24) hc d_Mo_agent_37 rfl ?_
  refine fm_iload_n hc d_Mo_agent_39 rfl rfl ?_
  refine fm_imul hc d_Mo_agent_40 ?_
  refine fm_top (congrArg Value.int (pk_mul 24 j)) ?_
  refine fm_iload_n hc d_Mo_agent_41 rfl rfl ?_
  refine fm_iadd hc d_Mo_agent_42 ?_
  refine fm_top (congrArg Value.int (nI_add (24 * j) a)) ?_
  refine fm_iald (j := (24 * j) + a) (len := 96) hc 0 d_Mo_agent_43 (by decide) (by omega) (by decide) rfl (by omega) (by decide) ?_
  refine fm_top (congrArg Value.int (show (fm_put1 M 586 0 (nI 0)).1 597 ((24 * j) + a) = nI sl from ((o1 _ _ (by decide)).trans hs))) ?_
  refine fm_if_ne (tgt := 49) hc d_Mo_agent_44 rfl (fun _ => ?_) (fun gQ => absurd gQ (fun e => h0 (nI_inj (c := 0) (by omega) (by decide) e)))
  refine fm_bipush (v := nI 24) hc d_Mo_agent_49 rfl ?_
  refine fm_iload_n hc d_Mo_agent_51 rfl rfl ?_
  refine fm_imul hc d_Mo_agent_52 ?_
  refine fm_top (congrArg Value.int (pk_mul 24 j)) ?_
  refine fm_iload_n hc d_Mo_agent_53 rfl rfl ?_
  refine fm_iadd hc d_Mo_agent_54 ?_
  refine fm_top (congrArg Value.int (nI_add (24 * j) a)) ?_
  refine fm_istore (lv' := [(4, .int (nI ((24 * j) + a))), (0, .ref 586), (1, .int (nI j)), (2, .int (nI a)), (3, .int (nI 3))]) hc d_Mo_agent_55 (by decide) rfl ?_
  refine fm_iload_n hc d_Mo_agent_57 rfl rfl ?_
  refine fm_tableIn (off := 66) (tgt := 124) hc d_Mo_agent_58 (by decide) (by decide) rfl rfl ?_
  refine fm_aload_n hc d_Mo_agent_124 rfl rfl ?_
  refine fm_getR (k := 24) (q := 609) hc K_Mo d_Mo_agent_125 q_909 rfl (by decide) (by omega) (by decide) (by decide) (by decide) rfl (rp_said hR) ?_
  refine fm_iload hc d_Mo_agent_128 rfl ?_
  refine fm_iald (j := (24 * j) + a) (len := 98) hc 0 d_Mo_agent_130 (by decide) (by omega) (by decide) rfl (by omega) (by decide) ?_
  refine fm_top (congrArg Value.int (show (fm_put1 M 586 0 (nI 0)).1 609 ((24 * j) + a) = nI (A.1 5) from ((o1 _ _ (by decide)).trans (h.1 5 (by decide) (by decide) trivial)))) ?_
  exact fm_iret hc hr d_Mo_agent_131 (Nat.le_refl _) (Nat.le_refl _) ⟨rfl, rfl, rfl⟩
theorem r_agt_4 {l : Launch} {b : Nat} {x : Nat → Nat} {D : va_G} {dA : Nat → ClassId} {j a sl : Nat}  {A : ag_T} {g : Nat → Nat} {n : Nat} {M : fm_M} (hn : 629 ≤ n) (hR : fm_RP M) (hj : j < 4) (ha : a < 8) (hu : ¬ M.1 595 j = 0) (hs : M.1 597 (24 * j + a) = nI sl) (hs4 : sl ≤ 4) (h0 : ¬ sl = 0) (h : hr_G M (24 * j + a) F_m A g) (ok : ag_ok A) : Met l y_Mo_agent (Cond.code y_Mo_agent b_Mo_agent 5 (some .int) :: fm_T0) ({ frames := 3, cells := 0, slots := 0, locals := 70 }) (fm_Pc fm_lay fm_nf fm_fk fm_cl b x D dA (fm_tys dA) (fm_EX b x) false [.ref 586, .int (nI j), .int (nI a), .int (nI 4)] n M) (fm_Qc fm_lay fm_nf fm_fk fm_cl b x D dA (fun r n' M' => r = some (.int (nI (A.1 6))) ∧ n' = n ∧ M' = fm_put1 M 586 0 (nI 0))) 0 0 (fm_A b) := by
  refine fm_enter (by decide) (Nat.le_of_ble_eq_true rfl) ?_
  intro p e s m args below meth c9 hc hr hnm hex htg
  have ok1 := ok.1
  have o1 : ∀ q i, q ≠ 586 → (fm_put1 M 586 0 (nI 0)).1 q i = M.1 q i := fun q i e => p1_other e
  refine fm_aload_n hc d_Mo_agent_0 rfl rfl ?_
  refine fm_iconst (v := nI 0) hc d_Mo_agent_1 rfl ?_
  refine fm_putI (k := 0) (v := nI 0) hc K_Mo d_Mo_agent_2 q_885 rfl (by decide) (by omega) (by decide) (by decide) (by decide) rfl rfl rfl rfl ?_
  refine fm_mem (M' := fm_put1 M 586 0 (nI 0)) rfl rfl ?_
  refine fm_iload_n hc d_Mo_agent_5 rfl rfl ?_
  refine fm_iconst (v := nI 0) hc d_Mo_agent_6 rfl ?_
  refine fm_iconst (v := nI 3) hc d_Mo_agent_7 rfl ?_
  refine fm_callS (av := [.int (nI j), .int (nI 0), .int (nI 3)]) (rest := []) (y := y_Mo_within) (bytes := b_Mo_within) hc fm_T0_good (fm_EX_st b x) hex q_1049 q_13 q_1047 q_1048 pd_Mo_within (c_Mo_within_ok (wi_of4 (in4_of hj))) ⟨rfl, rfl, Nat.le_of_ble_eq_true rfl, Nat.le_of_ble_eq_true rfl⟩ ⟨Nat.le_of_ble_eq_true rfl, Nat.le_of_ble_eq_true rfl⟩ d_Mo_agent_8 (Nat.le_of_ble_eq_true rfl) (fun r n2 M2 hp => ?_)
  obtain ⟨rfl, hq1, hq2⟩ := hp
  replace hq1 := hq1.symm
  replace hq2 := hq2.symm
  subst hq1 hq2
  refine fm_cnt (z' := (0, 0)) rfl (fm_st (st' := [.int (nI 1)]) rfl ?_)
  refine fm_if_eq (tgt := 47) hc d_Mo_agent_11 rfl (fun gQ => absurd gQ (by decide)) (fun _ => ?_)
  refine fm_iload_n hc d_Mo_agent_14 rfl rfl ?_
  refine fm_iconst (v := nI 0) hc d_Mo_agent_15 rfl ?_
  refine fm_bipush (v := nI 7) hc d_Mo_agent_16 rfl ?_
  refine fm_callS (av := [.int (nI a), .int (nI 0), .int (nI 7)]) (rest := []) (y := y_Mo_within) (bytes := b_Mo_within) hc fm_T0_good (fm_EX_st b x) hex q_1049 q_13 q_1047 q_1048 pd_Mo_within (c_Mo_within_ok (wi_of8 (in8_of ha))) ⟨rfl, rfl, Nat.le_of_ble_eq_true rfl, Nat.le_of_ble_eq_true rfl⟩ ⟨Nat.le_of_ble_eq_true rfl, Nat.le_of_ble_eq_true rfl⟩ d_Mo_agent_18 (Nat.le_of_ble_eq_true rfl) (fun r n2 M2 hp => ?_)
  obtain ⟨rfl, hq1, hq2⟩ := hp
  replace hq1 := hq1.symm
  replace hq2 := hq2.symm
  subst hq1 hq2
  refine fm_cnt (z' := (0, 0)) rfl (fm_st (st' := [.int (nI 1)]) rfl ?_)
  refine fm_if_eq (tgt := 47) hc d_Mo_agent_21 rfl (fun gQ => absurd gQ (by decide)) (fun _ => ?_)
  refine fm_aload_n hc d_Mo_agent_24 rfl rfl ?_
  refine fm_getR (k := 10) (q := 595) hc K_Mo d_Mo_agent_25 q_895 rfl (by decide) (by omega) (by decide) (by decide) (by decide) rfl (rp_up hR) ?_
  refine fm_iload_n hc d_Mo_agent_28 rfl rfl ?_
  refine fm_zald (j := j) (len := 4) hc 1 d_Mo_agent_29 (by decide) (by omega) (by decide) rfl (by omega) (by decide) ?_
  refine fm_if_eq (tgt := 47) hc d_Mo_agent_30 rfl (fun gQ => absurd gQ hu) (fun _ => ?_)
  refine fm_aload_n hc d_Mo_agent_33 rfl rfl ?_
  refine fm_getR (k := 12) (q := 597) hc K_Mo d_Mo_agent_34 q_897 rfl (by decide) (by omega) (by decide) (by decide) (by decide) rfl (rp_slot hR) ?_
  refine fm_bipush (v := nI 24) hc d_Mo_agent_37 rfl ?_
  refine fm_iload_n hc d_Mo_agent_39 rfl rfl ?_
  refine fm_imul hc d_Mo_agent_40 ?_
  refine fm_top (congrArg Value.int (pk_mul 24 j)) ?_
  refine fm_iload_n hc d_Mo_agent_41 rfl rfl ?_
  refine fm_iadd hc d_Mo_agent_42 ?_
  refine fm_top (congrArg Value.int (nI_add (24 * j) a)) ?_
  refine fm_iald (j := (24 * j) + a) (len := 96) hc 0 d_Mo_agent_43 (by decide) (by omega) (by decide) rfl (by omega) (by decide) ?_
  refine fm_top (congrArg Value.int (show (fm_put1 M 586 0 (nI 0)).1 597 ((24 * j) + a) = nI sl from ((o1 _ _ (by decide)).trans hs))) ?_
  refine fm_if_ne (tgt := 49) hc d_Mo_agent_44 rfl (fun _ => ?_) (fun gQ => absurd gQ (fun e => h0 (nI_inj (c := 0) (by omega) (by decide) e)))
  refine fm_bipush (v := nI 24) hc d_Mo_agent_49 rfl ?_
  refine fm_iload_n hc d_Mo_agent_51 rfl rfl ?_
  refine fm_imul hc d_Mo_agent_52 ?_
  refine fm_top (congrArg Value.int (pk_mul 24 j)) ?_
  refine fm_iload_n hc d_Mo_agent_53 rfl rfl ?_
  refine fm_iadd hc d_Mo_agent_54 ?_
  refine fm_top (congrArg Value.int (nI_add (24 * j) a)) ?_
  refine fm_istore (lv' := [(4, .int (nI ((24 * j) + a))), (0, .ref 586), (1, .int (nI j)), (2, .int (nI a)), (3, .int (nI 4))]) hc d_Mo_agent_55 (by decide) rfl ?_
  refine fm_iload_n hc d_Mo_agent_57 rfl rfl ?_
  refine fm_tableIn (off := 74) (tgt := 132) hc d_Mo_agent_58 (by decide) (by decide) rfl rfl ?_
  refine fm_aload_n hc d_Mo_agent_132 rfl rfl ?_
  refine fm_getR (k := 25) (q := 610) hc K_Mo d_Mo_agent_133 q_910 rfl (by decide) (by omega) (by decide) (by decide) (by decide) rfl (rp_wait hR) ?_
  refine fm_iload hc d_Mo_agent_136 rfl ?_
  refine fm_iald (j := (24 * j) + a) (len := 98) hc 0 d_Mo_agent_138 (by decide) (by omega) (by decide) rfl (by omega) (by decide) ?_
  refine fm_top (congrArg Value.int (show (fm_put1 M 586 0 (nI 0)).1 610 ((24 * j) + a) = nI (A.1 6) from ((o1 _ _ (by decide)).trans (h.1 6 (by decide) (by decide) trivial)))) ?_
  exact fm_iret hc hr d_Mo_agent_139 (Nat.le_refl _) (Nat.le_refl _) ⟨rfl, rfl, rfl⟩
theorem r_agt_5 {l : Launch} {b : Nat} {x : Nat → Nat} {D : va_G} {dA : Nat → ClassId} {j a sl : Nat}  {A : ag_T} {g : Nat → Nat} {n : Nat} {M : fm_M} (hn : 629 ≤ n) (hR : fm_RP M) (hj : j < 4) (ha : a < 8) (hu : ¬ M.1 595 j = 0) (hs : M.1 597 (24 * j + a) = nI sl) (hs4 : sl ≤ 4) (h0 : ¬ sl = 0) (h : hr_G M (24 * j + a) F_m A g) (ok : ag_ok A) : Met l y_Mo_agent (Cond.code y_Mo_agent b_Mo_agent 5 (some .int) :: fm_T0) ({ frames := 3, cells := 0, slots := 0, locals := 70 }) (fm_Pc fm_lay fm_nf fm_fk fm_cl b x D dA (fm_tys dA) (fm_EX b x) false [.ref 586, .int (nI j), .int (nI a), .int (nI 5)] n M) (fm_Qc fm_lay fm_nf fm_fk fm_cl b x D dA (fun r n' M' => r = some (.int (nI A.2.1.length)) ∧ n' = n ∧ M' = fm_put1 M 586 0 (nI 0))) 0 0 (fm_A b) := by
  refine fm_enter (by decide) (Nat.le_of_ble_eq_true rfl) ?_
  intro p e s m args below meth c9 hc hr hnm hex htg
  have ok1 := ok.1
  have o1 : ∀ q i, q ≠ 586 → (fm_put1 M 586 0 (nI 0)).1 q i = M.1 q i := fun q i e => p1_other e
  refine fm_aload_n hc d_Mo_agent_0 rfl rfl ?_
  refine fm_iconst (v := nI 0) hc d_Mo_agent_1 rfl ?_
  refine fm_putI (k := 0) (v := nI 0) hc K_Mo d_Mo_agent_2 q_885 rfl (by decide) (by omega) (by decide) (by decide) (by decide) rfl rfl rfl rfl ?_
  refine fm_mem (M' := fm_put1 M 586 0 (nI 0)) rfl rfl ?_
  refine fm_iload_n hc d_Mo_agent_5 rfl rfl ?_
  refine fm_iconst (v := nI 0) hc d_Mo_agent_6 rfl ?_
  refine fm_iconst (v := nI 3) hc d_Mo_agent_7 rfl ?_
  refine fm_callS (av := [.int (nI j), .int (nI 0), .int (nI 3)]) (rest := []) (y := y_Mo_within) (bytes := b_Mo_within) hc fm_T0_good (fm_EX_st b x) hex q_1049 q_13 q_1047 q_1048 pd_Mo_within (c_Mo_within_ok (wi_of4 (in4_of hj))) ⟨rfl, rfl, Nat.le_of_ble_eq_true rfl, Nat.le_of_ble_eq_true rfl⟩ ⟨Nat.le_of_ble_eq_true rfl, Nat.le_of_ble_eq_true rfl⟩ d_Mo_agent_8 (Nat.le_of_ble_eq_true rfl) (fun r n2 M2 hp => ?_)
  obtain ⟨rfl, hq1, hq2⟩ := hp
  replace hq1 := hq1.symm
  replace hq2 := hq2.symm
  subst hq1 hq2
  refine fm_cnt (z' := (0, 0)) rfl (fm_st (st' := [.int (nI 1)]) rfl ?_)
  refine fm_if_eq (tgt := 47) hc d_Mo_agent_11 rfl (fun gQ => absurd gQ (by decide)) (fun _ => ?_)
  refine fm_iload_n hc d_Mo_agent_14 rfl rfl ?_
  refine fm_iconst (v := nI 0) hc d_Mo_agent_15 rfl ?_
  refine fm_bipush (v := nI 7) hc d_Mo_agent_16 rfl ?_
  refine fm_callS (av := [.int (nI a), .int (nI 0), .int (nI 7)]) (rest := []) (y := y_Mo_within) (bytes := b_Mo_within) hc fm_T0_good (fm_EX_st b x) hex q_1049 q_13 q_1047 q_1048 pd_Mo_within (c_Mo_within_ok (wi_of8 (in8_of ha))) ⟨rfl, rfl, Nat.le_of_ble_eq_true rfl, Nat.le_of_ble_eq_true rfl⟩ ⟨Nat.le_of_ble_eq_true rfl, Nat.le_of_ble_eq_true rfl⟩ d_Mo_agent_18 (Nat.le_of_ble_eq_true rfl) (fun r n2 M2 hp => ?_)
  obtain ⟨rfl, hq1, hq2⟩ := hp
  replace hq1 := hq1.symm
  replace hq2 := hq2.symm
  subst hq1 hq2
  refine fm_cnt (z' := (0, 0)) rfl (fm_st (st' := [.int (nI 1)]) rfl ?_)
  refine fm_if_eq (tgt := 47) hc d_Mo_agent_21 rfl (fun gQ => absurd gQ (by decide)) (fun _ => ?_)
  refine fm_aload_n hc d_Mo_agent_24 rfl rfl ?_
  refine fm_getR (k := 10) (q := 595) hc K_Mo d_Mo_agent_25 q_895 rfl (by decide) (by omega) (by decide) (by decide) (by decide) rfl (rp_up hR) ?_
  refine fm_iload_n hc d_Mo_agent_28 rfl rfl ?_
  refine fm_zald (j := j) (len := 4) hc 1 d_Mo_agent_29 (by decide) (by omega) (by decide) rfl (by omega) (by decide) ?_
  refine fm_if_eq (tgt := 47) hc d_Mo_agent_30 rfl (fun gQ => absurd gQ hu) (fun _ => ?_)
  refine fm_aload_n hc d_Mo_agent_33 rfl rfl ?_
  refine fm_getR (k := 12) (q := 597) hc K_Mo d_Mo_agent_34 q_897 rfl (by decide) (by omega) (by decide) (by decide) (by decide) rfl (rp_slot hR) ?_
  refine fm_bipush (v := nI 24) hc d_Mo_agent_37 rfl ?_
  refine fm_iload_n hc d_Mo_agent_39 rfl rfl ?_
  refine fm_imul hc d_Mo_agent_40 ?_
  refine fm_top (congrArg Value.int (pk_mul 24 j)) ?_
  refine fm_iload_n hc d_Mo_agent_41 rfl rfl ?_
  refine fm_iadd hc d_Mo_agent_42 ?_
  refine fm_top (congrArg Value.int (nI_add (24 * j) a)) ?_
  refine fm_iald (j := (24 * j) + a) (len := 96) hc 0 d_Mo_agent_43 (by decide) (by omega) (by decide) rfl (by omega) (by decide) ?_
  refine fm_top (congrArg Value.int (show (fm_put1 M 586 0 (nI 0)).1 597 ((24 * j) + a) = nI sl from ((o1 _ _ (by decide)).trans hs))) ?_
  refine fm_if_ne (tgt := 49) hc d_Mo_agent_44 rfl (fun _ => ?_) (fun gQ => absurd gQ (fun e => h0 (nI_inj (c := 0) (by omega) (by decide) e)))
  refine fm_bipush (v := nI 24) hc d_Mo_agent_49 rfl ?_
  refine fm_iload_n hc d_Mo_agent_51 rfl rfl ?_
  refine fm_imul hc d_Mo_agent_52 ?_
  refine fm_top (congrArg Value.int (pk_mul 24 j)) ?_
  refine fm_iload_n hc d_Mo_agent_53 rfl rfl ?_
  refine fm_iadd hc d_Mo_agent_54 ?_
  refine fm_top (congrArg Value.int (nI_add (24 * j) a)) ?_
  refine fm_istore (lv' := [(4, .int (nI ((24 * j) + a))), (0, .ref 586), (1, .int (nI j)), (2, .int (nI a)), (3, .int (nI 5))]) hc d_Mo_agent_55 (by decide) rfl ?_
  refine fm_iload_n hc d_Mo_agent_57 rfl rfl ?_
  refine fm_tableIn (off := 82) (tgt := 140) hc d_Mo_agent_58 (by decide) (by decide) rfl rfl ?_
  refine fm_aload_n hc d_Mo_agent_140 rfl rfl ?_
  refine fm_getR (k := 27) (q := 612) hc K_Mo d_Mo_agent_141 q_912 rfl (by decide) (by omega) (by decide) (by decide) (by decide) rfl (rp_size hR) ?_
  refine fm_iload hc d_Mo_agent_144 rfl ?_
  refine fm_iald (j := (24 * j) + a) (len := 98) hc 0 d_Mo_agent_146 (by decide) (by omega) (by decide) rfl (by omega) (by decide) ?_
  refine fm_top (congrArg Value.int (show (fm_put1 M 586 0 (nI 0)).1 612 ((24 * j) + a) = nI A.2.1.length from ((o1 _ _ (by decide)).trans h.2.1))) ?_
  exact fm_iret hc hr d_Mo_agent_147 (Nat.le_refl _) (Nat.le_refl _) ⟨rfl, rfl, rfl⟩
theorem r_agt_6 {l : Launch} {b : Nat} {x : Nat → Nat} {D : va_G} {dA : Nat → ClassId} {j a sl : Nat}  {A : ag_T} {g : Nat → Nat} {n : Nat} {M : fm_M} (hn : 629 ≤ n) (hR : fm_RP M) (hj : j < 4) (ha : a < 8) (hu : ¬ M.1 595 j = 0) (hs : M.1 597 (24 * j + a) = nI sl) (hs4 : sl ≤ 4) (h0 : ¬ sl = 0) (h : hr_G M (24 * j + a) F_m A g) (ok : ag_ok A) (hcan : ag_can A = A) : Met l y_Mo_agent (Cond.code y_Mo_agent b_Mo_agent 5 (some .int) :: fm_T0) ({ frames := 3, cells := 0, slots := 0, locals := 70 }) (fm_Pc fm_lay fm_nf fm_fk fm_cl b x D dA (fm_tys dA) (fm_EX b x) false [.ref 586, .int (nI j), .int (nI a), .int (nI 6)] n M) (fm_Qc fm_lay fm_nf fm_fk fm_cl b x D dA (fun r n' M' => r = some (.int (nI A.2.2.length)) ∧ n' = n ∧ fr_K (fm_put1 M 586 0 (nI 0)) M')) 0 0 (fm_A b) := by
  refine fm_enter (by decide) (Nat.le_of_ble_eq_true rfl) ?_
  intro p e s m args below meth c9 hc hr hnm hex htg
  have ok1 := ok.1
  have o1 : ∀ q i, q ≠ 586 → (fm_put1 M 586 0 (nI 0)).1 q i = M.1 q i := fun q i e => p1_other e
  refine fm_aload_n hc d_Mo_agent_0 rfl rfl ?_
  refine fm_iconst (v := nI 0) hc d_Mo_agent_1 rfl ?_
  refine fm_putI (k := 0) (v := nI 0) hc K_Mo d_Mo_agent_2 q_885 rfl (by decide) (by omega) (by decide) (by decide) (by decide) rfl rfl rfl rfl ?_
  refine fm_mem (M' := fm_put1 M 586 0 (nI 0)) rfl rfl ?_
  refine fm_iload_n hc d_Mo_agent_5 rfl rfl ?_
  refine fm_iconst (v := nI 0) hc d_Mo_agent_6 rfl ?_
  refine fm_iconst (v := nI 3) hc d_Mo_agent_7 rfl ?_
  refine fm_callS (av := [.int (nI j), .int (nI 0), .int (nI 3)]) (rest := []) (y := y_Mo_within) (bytes := b_Mo_within) hc fm_T0_good (fm_EX_st b x) hex q_1049 q_13 q_1047 q_1048 pd_Mo_within (c_Mo_within_ok (wi_of4 (in4_of hj))) ⟨rfl, rfl, Nat.le_of_ble_eq_true rfl, Nat.le_of_ble_eq_true rfl⟩ ⟨Nat.le_of_ble_eq_true rfl, Nat.le_of_ble_eq_true rfl⟩ d_Mo_agent_8 (Nat.le_of_ble_eq_true rfl) (fun r n2 M2 hp => ?_)
  obtain ⟨rfl, hq1, hq2⟩ := hp
  replace hq1 := hq1.symm
  replace hq2 := hq2.symm
  subst hq1 hq2
  refine fm_cnt (z' := (0, 0)) rfl (fm_st (st' := [.int (nI 1)]) rfl ?_)
  refine fm_if_eq (tgt := 47) hc d_Mo_agent_11 rfl (fun gQ => absurd gQ (by decide)) (fun _ => ?_)
  refine fm_iload_n hc d_Mo_agent_14 rfl rfl ?_
  refine fm_iconst (v := nI 0) hc d_Mo_agent_15 rfl ?_
  refine fm_bipush (v := nI 7) hc d_Mo_agent_16 rfl ?_
  refine fm_callS (av := [.int (nI a), .int (nI 0), .int (nI 7)]) (rest := []) (y := y_Mo_within) (bytes := b_Mo_within) hc fm_T0_good (fm_EX_st b x) hex q_1049 q_13 q_1047 q_1048 pd_Mo_within (c_Mo_within_ok (wi_of8 (in8_of ha))) ⟨rfl, rfl, Nat.le_of_ble_eq_true rfl, Nat.le_of_ble_eq_true rfl⟩ ⟨Nat.le_of_ble_eq_true rfl, Nat.le_of_ble_eq_true rfl⟩ d_Mo_agent_18 (Nat.le_of_ble_eq_true rfl) (fun r n2 M2 hp => ?_)
  obtain ⟨rfl, hq1, hq2⟩ := hp
  replace hq1 := hq1.symm
  replace hq2 := hq2.symm
  subst hq1 hq2
  refine fm_cnt (z' := (0, 0)) rfl (fm_st (st' := [.int (nI 1)]) rfl ?_)
  refine fm_if_eq (tgt := 47) hc d_Mo_agent_21 rfl (fun gQ => absurd gQ (by decide)) (fun _ => ?_)
  refine fm_aload_n hc d_Mo_agent_24 rfl rfl ?_
  refine fm_getR (k := 10) (q := 595) hc K_Mo d_Mo_agent_25 q_895 rfl (by decide) (by omega) (by decide) (by decide) (by decide) rfl (rp_up hR) ?_
  refine fm_iload_n hc d_Mo_agent_28 rfl rfl ?_
  refine fm_zald (j := j) (len := 4) hc 1 d_Mo_agent_29 (by decide) (by omega) (by decide) rfl (by omega) (by decide) ?_
  refine fm_if_eq (tgt := 47) hc d_Mo_agent_30 rfl (fun gQ => absurd gQ hu) (fun _ => ?_)
  refine fm_aload_n hc d_Mo_agent_33 rfl rfl ?_
  refine fm_getR (k := 12) (q := 597) hc K_Mo d_Mo_agent_34 q_897 rfl (by decide) (by omega) (by decide) (by decide) (by decide) rfl (rp_slot hR) ?_
  refine fm_bipush (v := nI 24) hc d_Mo_agent_37 rfl ?_
  refine fm_iload_n hc d_Mo_agent_39 rfl rfl ?_
  refine fm_imul hc d_Mo_agent_40 ?_
  refine fm_top (congrArg Value.int (pk_mul 24 j)) ?_
  refine fm_iload_n hc d_Mo_agent_41 rfl rfl ?_
  refine fm_iadd hc d_Mo_agent_42 ?_
  refine fm_top (congrArg Value.int (nI_add (24 * j) a)) ?_
  refine fm_iald (j := (24 * j) + a) (len := 96) hc 0 d_Mo_agent_43 (by decide) (by omega) (by decide) rfl (by omega) (by decide) ?_
  refine fm_top (congrArg Value.int (show (fm_put1 M 586 0 (nI 0)).1 597 ((24 * j) + a) = nI sl from ((o1 _ _ (by decide)).trans hs))) ?_
  refine fm_if_ne (tgt := 49) hc d_Mo_agent_44 rfl (fun _ => ?_) (fun gQ => absurd gQ (fun e => h0 (nI_inj (c := 0) (by omega) (by decide) e)))
  refine fm_bipush (v := nI 24) hc d_Mo_agent_49 rfl ?_
  refine fm_iload_n hc d_Mo_agent_51 rfl rfl ?_
  refine fm_imul hc d_Mo_agent_52 ?_
  refine fm_top (congrArg Value.int (pk_mul 24 j)) ?_
  refine fm_iload_n hc d_Mo_agent_53 rfl rfl ?_
  refine fm_iadd hc d_Mo_agent_54 ?_
  refine fm_top (congrArg Value.int (nI_add (24 * j) a)) ?_
  refine fm_istore (lv' := [(4, .int (nI ((24 * j) + a))), (0, .ref 586), (1, .int (nI j)), (2, .int (nI a)), (3, .int (nI 6))]) hc d_Mo_agent_55 (by decide) rfl ?_
  refine fm_iload_n hc d_Mo_agent_57 rfl rfl ?_
  refine fm_tableIn (off := 90) (tgt := 148) hc d_Mo_agent_58 (by decide) (by decide) rfl rfl ?_
  refine fm_aload_n hc d_Mo_agent_148 rfl rfl ?_
  refine fm_iload hc d_Mo_agent_149 rfl ?_
  refine fm_callV (av := [.int (nI ((24 * j) + a))]) (rest := []) (ob := 586) (ci := 11) (r0 := ("AgentNetModel", F_Mo, 51)) (y := y_Mo_reach) (bytes := b_Mo_reach) hc fm_T0_good (fm_EX_st b x) hex q_1106 q_13 q_1103 q_1105 qs_Mo_reach pd_Mo_reach (by decide) (by omega) (by decide) (by decide) rfl rfl (rc_reach (M := fm_put1 M 586 0 (nI 0)) hn (fun q hq => hR q hq) (by omega) (hrG_o1 (Or.inl (by decide)) h) ok) ⟨rfl, rfl, Nat.le_of_ble_eq_true rfl, Nat.le_of_ble_eq_true rfl⟩ ⟨Nat.le_of_ble_eq_true rfl, Nat.le_of_ble_eq_true rfl⟩ d_Mo_agent_151 (Nat.le_of_ble_eq_true rfl) (fun r n2 M2 hp => ?_)
  obtain ⟨rfl, hq1, r1, r2⟩ := hp
  replace hq1 := hq1.symm
  subst hq1
  rw [can_len hcan]
  refine fm_cnt (z' := (0, 0)) rfl (fm_st (st' := [.int (nI A.2.2.length)]) rfl ?_)
  exact fm_iret hc hr d_Mo_agent_154 (Nat.le_refl _) (Nat.le_refl _) ⟨rfl, rfl, r2⟩
theorem r_agt_i {l : Launch} {b : Nat} {x : Nat → Nat} {D : va_G} {dA : Nat → ClassId} {j a sl k : Nat}  {A : ag_T} {g : Nat → Nat} {n : Nat} {M : fm_M} (hn : 629 ≤ n) (hR : fm_RP M) (hj : j < 4) (ha : a < 8) (hu : ¬ M.1 595 j = 0) (hs : M.1 597 (24 * j + a) = nI sl) (hs4 : sl ≤ 4) (h0 : ¬ sl = 0) (h : hr_G M (24 * j + a) F_m A g) (ok : ag_ok A) {y : Int32} (hk : A.2.1[k]? = some (.inl y)) : Met l y_Mo_agent (Cond.code y_Mo_agent b_Mo_agent 5 (some .int) :: fm_T0) ({ frames := 3, cells := 0, slots := 0, locals := 70 }) (fm_Pc fm_lay fm_nf fm_fk fm_cl b x D dA (fm_tys dA) (fm_EX b x) false [.ref 586, .int (nI j), .int (nI a), .int (nI (10 + k))] n M) (fm_Qc fm_lay fm_nf fm_fk fm_cl b x D dA (fun r n' M' => r = some (.int (nI 0)) ∧ n' = n ∧ M' = fm_put1 M 586 0 (nI 0))) 0 0 (fm_A b) := by
  refine fm_enter (by decide) (Nat.le_of_ble_eq_true rfl) ?_
  intro p e s m args below meth c9 hc hr hnm hex htg
  have ok1 := ok.1
  have o1 : ∀ q i, q ≠ 586 → (fm_put1 M 586 0 (nI 0)).1 q i = M.1 q i := fun q i e => p1_other e
  have hkl : k < A.2.1.length := by
    rcases Nat.lt_or_ge k A.2.1.length with q | q
    · exact q
    · rw [List.getElem?_eq_none q] at hk; cases hk
  refine fm_aload_n hc d_Mo_agent_0 rfl rfl ?_
  refine fm_iconst (v := nI 0) hc d_Mo_agent_1 rfl ?_
  refine fm_putI (k := 0) (v := nI 0) hc K_Mo d_Mo_agent_2 q_885 rfl (by decide) (by omega) (by decide) (by decide) (by decide) rfl rfl rfl rfl ?_
  refine fm_mem (M' := fm_put1 M 586 0 (nI 0)) rfl rfl ?_
  refine fm_iload_n hc d_Mo_agent_5 rfl rfl ?_
  refine fm_iconst (v := nI 0) hc d_Mo_agent_6 rfl ?_
  refine fm_iconst (v := nI 3) hc d_Mo_agent_7 rfl ?_
  refine fm_callS (av := [.int (nI j), .int (nI 0), .int (nI 3)]) (rest := []) (y := y_Mo_within) (bytes := b_Mo_within) hc fm_T0_good (fm_EX_st b x) hex q_1049 q_13 q_1047 q_1048 pd_Mo_within (c_Mo_within_ok (wi_of4 (in4_of hj))) ⟨rfl, rfl, Nat.le_of_ble_eq_true rfl, Nat.le_of_ble_eq_true rfl⟩ ⟨Nat.le_of_ble_eq_true rfl, Nat.le_of_ble_eq_true rfl⟩ d_Mo_agent_8 (Nat.le_of_ble_eq_true rfl) (fun r n2 M2 hp => ?_)
  obtain ⟨rfl, hq1, hq2⟩ := hp
  replace hq1 := hq1.symm
  replace hq2 := hq2.symm
  subst hq1 hq2
  refine fm_cnt (z' := (0, 0)) rfl (fm_st (st' := [.int (nI 1)]) rfl ?_)
  refine fm_if_eq (tgt := 47) hc d_Mo_agent_11 rfl (fun gQ => absurd gQ (by decide)) (fun _ => ?_)
  refine fm_iload_n hc d_Mo_agent_14 rfl rfl ?_
  refine fm_iconst (v := nI 0) hc d_Mo_agent_15 rfl ?_
  refine fm_bipush (v := nI 7) hc d_Mo_agent_16 rfl ?_
  refine fm_callS (av := [.int (nI a), .int (nI 0), .int (nI 7)]) (rest := []) (y := y_Mo_within) (bytes := b_Mo_within) hc fm_T0_good (fm_EX_st b x) hex q_1049 q_13 q_1047 q_1048 pd_Mo_within (c_Mo_within_ok (wi_of8 (in8_of ha))) ⟨rfl, rfl, Nat.le_of_ble_eq_true rfl, Nat.le_of_ble_eq_true rfl⟩ ⟨Nat.le_of_ble_eq_true rfl, Nat.le_of_ble_eq_true rfl⟩ d_Mo_agent_18 (Nat.le_of_ble_eq_true rfl) (fun r n2 M2 hp => ?_)
  obtain ⟨rfl, hq1, hq2⟩ := hp
  replace hq1 := hq1.symm
  replace hq2 := hq2.symm
  subst hq1 hq2
  refine fm_cnt (z' := (0, 0)) rfl (fm_st (st' := [.int (nI 1)]) rfl ?_)
  refine fm_if_eq (tgt := 47) hc d_Mo_agent_21 rfl (fun gQ => absurd gQ (by decide)) (fun _ => ?_)
  refine fm_aload_n hc d_Mo_agent_24 rfl rfl ?_
  refine fm_getR (k := 10) (q := 595) hc K_Mo d_Mo_agent_25 q_895 rfl (by decide) (by omega) (by decide) (by decide) (by decide) rfl (rp_up hR) ?_
  refine fm_iload_n hc d_Mo_agent_28 rfl rfl ?_
  refine fm_zald (j := j) (len := 4) hc 1 d_Mo_agent_29 (by decide) (by omega) (by decide) rfl (by omega) (by decide) ?_
  refine fm_if_eq (tgt := 47) hc d_Mo_agent_30 rfl (fun gQ => absurd gQ hu) (fun _ => ?_)
  refine fm_aload_n hc d_Mo_agent_33 rfl rfl ?_
  refine fm_getR (k := 12) (q := 597) hc K_Mo d_Mo_agent_34 q_897 rfl (by decide) (by omega) (by decide) (by decide) (by decide) rfl (rp_slot hR) ?_
  refine fm_bipush (v := nI 24) hc d_Mo_agent_37 rfl ?_
  refine fm_iload_n hc d_Mo_agent_39 rfl rfl ?_
  refine fm_imul hc d_Mo_agent_40 ?_
  refine fm_top (congrArg Value.int (pk_mul 24 j)) ?_
  refine fm_iload_n hc d_Mo_agent_41 rfl rfl ?_
  refine fm_iadd hc d_Mo_agent_42 ?_
  refine fm_top (congrArg Value.int (nI_add (24 * j) a)) ?_
  refine fm_iald (j := (24 * j) + a) (len := 96) hc 0 d_Mo_agent_43 (by decide) (by omega) (by decide) rfl (by omega) (by decide) ?_
  refine fm_top (congrArg Value.int (show (fm_put1 M 586 0 (nI 0)).1 597 ((24 * j) + a) = nI sl from ((o1 _ _ (by decide)).trans hs))) ?_
  refine fm_if_ne (tgt := 49) hc d_Mo_agent_44 rfl (fun _ => ?_) (fun gQ => absurd gQ (fun e => h0 (nI_inj (c := 0) (by omega) (by decide) e)))
  refine fm_bipush (v := nI 24) hc d_Mo_agent_49 rfl ?_
  refine fm_iload_n hc d_Mo_agent_51 rfl rfl ?_
  refine fm_imul hc d_Mo_agent_52 ?_
  refine fm_top (congrArg Value.int (pk_mul 24 j)) ?_
  refine fm_iload_n hc d_Mo_agent_53 rfl rfl ?_
  refine fm_iadd hc d_Mo_agent_54 ?_
  refine fm_top (congrArg Value.int (nI_add (24 * j) a)) ?_
  refine fm_istore (lv' := [(4, .int (nI ((24 * j) + a))), (0, .ref 586), (1, .int (nI j)), (2, .int (nI a)), (3, .int (nI (10 + k)))]) hc d_Mo_agent_55 (by decide) rfl ?_
  refine fm_iload_n hc d_Mo_agent_57 rfl rfl ?_
  refine fm_tableOut (tgt := 155) hc d_Mo_agent_58 (t10_out (c := 6) (by omega) (by decide)) rfl ?_
  refine fm_iload_n hc d_Mo_agent_155 rfl rfl ?_
  refine fm_bipush (v := nI 10) hc d_Mo_agent_156 rfl ?_
  refine fm_icmp_lt (tgt := 175) hc d_Mo_agent_158 rfl (fun gQ => absurd gQ (t10_lt (by omega))) (fun _ => ?_)
  refine fm_iload_n hc d_Mo_agent_161 rfl rfl ?_
  refine fm_bipush (v := nI 10) hc d_Mo_agent_162 rfl ?_
  refine fm_isub hc d_Mo_agent_164 ?_
  refine fm_top (congrArg Value.int (pk_sub (a := 10 + k) (b := 10) (by omega))) ?_
  refine fm_top (congrArg Value.int (show nI ((10 + k) - 10) = nI k from (congrArg nI (by omega)))) ?_
  refine fm_aload_n hc d_Mo_agent_165 rfl rfl ?_
  refine fm_getR (k := 27) (q := 612) hc K_Mo d_Mo_agent_166 q_912 rfl (by decide) (by omega) (by decide) (by decide) (by decide) rfl (rp_size hR) ?_
  refine fm_iload hc d_Mo_agent_169 rfl ?_
  refine fm_iald (j := (24 * j) + a) (len := 98) hc 0 d_Mo_agent_171 (by decide) (by omega) (by decide) rfl (by omega) (by decide) ?_
  refine fm_top (congrArg Value.int (show (fm_put1 M 586 0 (nI 0)).1 612 ((24 * j) + a) = nI A.2.1.length from ((o1 _ _ (by decide)).trans h.2.1))) ?_
  refine fm_icmp_lt (tgt := 179) hc d_Mo_agent_172 rfl (fun _ => ?_) (fun gQ => absurd (nI_ltB hkl (by omega)) gQ)
  refine fm_aload_n hc d_Mo_agent_179 rfl rfl ?_
  refine fm_getR (k := 28) (q := 613) hc K_Mo d_Mo_agent_180 q_913 rfl (by decide) (by omega) (by decide) (by decide) (by decide) rfl (rp_stack hR) ?_
  refine fm_bipush (v := nI 6) hc d_Mo_agent_183 rfl ?_
  refine fm_iload hc d_Mo_agent_185 rfl ?_
  refine fm_imul hc d_Mo_agent_187 ?_
  refine fm_top (congrArg Value.int (pk_mul 6 ((24 * j) + a))) ?_
  refine fm_iload_n hc d_Mo_agent_188 rfl rfl ?_
  refine fm_iadd hc d_Mo_agent_189 ?_
  refine fm_top (congrArg Value.int (nI_add (6 * ((24 * j) + a)) (10 + k))) ?_
  refine fm_bipush (v := nI 10) hc d_Mo_agent_190 rfl ?_
  refine fm_isub hc d_Mo_agent_192 ?_
  refine fm_top (congrArg Value.int (pk_sub (a := (6 * ((24 * j) + a)) + (10 + k)) (b := 10) (by omega))) ?_
  refine fm_top (congrArg Value.int (show nI (((6 * ((24 * j) + a)) + (10 + k)) - 10) = nI (6 * (24 * j + a) + k) from (congrArg nI (by omega)))) ?_
  refine fm_lald (j := 6 * (24 * j + a) + k) (len := 588) hc 3 d_Mo_agent_193 (by decide) (by omega) (by decide) rfl (by omega) (by decide) ?_
  refine fm_top (congrArg Value.long (show (fm_put1 M 586 0 (nI 0)).2.1 613 (6 * (24 * j + a) + k) = e64 (bf_map g (.inl y)) from (h.2.2.2.2.1 k _ hk))) ?_
  refine fm_ldc2 (v := 1099511627776) hc d_Mo_agent_194 q_1098 ?_
  refine fm_lcmp hc d_Mo_agent_197 ?_
  refine fm_if_ge (tgt := 205) hc d_Mo_agent_198 rfl (fun gQ => absurd gQ (fun q => absurd (vx_int y) (Int64.not_lt.mpr ((lg_cmp_ge _ _).mp q)))) (fun _ => ?_)
  refine fm_iconst (v := nI 0) hc d_Mo_agent_201 rfl ?_
  refine fm_goto (tgt := 206) hc d_Mo_agent_202 rfl ?_
  exact fm_iret hc hr d_Mo_agent_206 (Nat.le_refl _) (Nat.le_refl _) ⟨rfl, rfl, rfl⟩
theorem r_agt_p {l : Launch} {b : Nat} {x : Nat → Nat} {D : va_G} {dA : Nat → ClassId} {j a sl k : Nat}  {A : ag_T} {g : Nat → Nat} {n : Nat} {M : fm_M} (hn : 629 ≤ n) (hR : fm_RP M) (hj : j < 4) (ha : a < 8) (hu : ¬ M.1 595 j = 0) (hs : M.1 597 (24 * j + a) = nI sl) (hs4 : sl ≤ 4) (h0 : ¬ sl = 0) (h : hr_G M (24 * j + a) F_m A g) (ok : ag_ok A) {y : Nat} (hk : A.2.1[k]? = some (.inr y)) : Met l y_Mo_agent (Cond.code y_Mo_agent b_Mo_agent 5 (some .int) :: fm_T0) ({ frames := 3, cells := 0, slots := 0, locals := 70 }) (fm_Pc fm_lay fm_nf fm_fk fm_cl b x D dA (fm_tys dA) (fm_EX b x) false [.ref 586, .int (nI j), .int (nI a), .int (nI (10 + k))] n M) (fm_Qc fm_lay fm_nf fm_fk fm_cl b x D dA (fun r n' M' => r = some (.int (nI 1)) ∧ n' = n ∧ M' = fm_put1 M 586 0 (nI 0))) 0 0 (fm_A b) := by
  refine fm_enter (by decide) (Nat.le_of_ble_eq_true rfl) ?_
  intro p e s m args below meth c9 hc hr hnm hex htg
  have ok1 := ok.1
  have o1 : ∀ q i, q ≠ 586 → (fm_put1 M 586 0 (nI 0)).1 q i = M.1 q i := fun q i e => p1_other e
  have hkl : k < A.2.1.length := by
    rcases Nat.lt_or_ge k A.2.1.length with q | q
    · exact q
    · rw [List.getElem?_eq_none q] at hk; cases hk
  refine fm_aload_n hc d_Mo_agent_0 rfl rfl ?_
  refine fm_iconst (v := nI 0) hc d_Mo_agent_1 rfl ?_
  refine fm_putI (k := 0) (v := nI 0) hc K_Mo d_Mo_agent_2 q_885 rfl (by decide) (by omega) (by decide) (by decide) (by decide) rfl rfl rfl rfl ?_
  refine fm_mem (M' := fm_put1 M 586 0 (nI 0)) rfl rfl ?_
  refine fm_iload_n hc d_Mo_agent_5 rfl rfl ?_
  refine fm_iconst (v := nI 0) hc d_Mo_agent_6 rfl ?_
  refine fm_iconst (v := nI 3) hc d_Mo_agent_7 rfl ?_
  refine fm_callS (av := [.int (nI j), .int (nI 0), .int (nI 3)]) (rest := []) (y := y_Mo_within) (bytes := b_Mo_within) hc fm_T0_good (fm_EX_st b x) hex q_1049 q_13 q_1047 q_1048 pd_Mo_within (c_Mo_within_ok (wi_of4 (in4_of hj))) ⟨rfl, rfl, Nat.le_of_ble_eq_true rfl, Nat.le_of_ble_eq_true rfl⟩ ⟨Nat.le_of_ble_eq_true rfl, Nat.le_of_ble_eq_true rfl⟩ d_Mo_agent_8 (Nat.le_of_ble_eq_true rfl) (fun r n2 M2 hp => ?_)
  obtain ⟨rfl, hq1, hq2⟩ := hp
  replace hq1 := hq1.symm
  replace hq2 := hq2.symm
  subst hq1 hq2
  refine fm_cnt (z' := (0, 0)) rfl (fm_st (st' := [.int (nI 1)]) rfl ?_)
  refine fm_if_eq (tgt := 47) hc d_Mo_agent_11 rfl (fun gQ => absurd gQ (by decide)) (fun _ => ?_)
  refine fm_iload_n hc d_Mo_agent_14 rfl rfl ?_
  refine fm_iconst (v := nI 0) hc d_Mo_agent_15 rfl ?_
  refine fm_bipush (v := nI 7) hc d_Mo_agent_16 rfl ?_
  refine fm_callS (av := [.int (nI a), .int (nI 0), .int (nI 7)]) (rest := []) (y := y_Mo_within) (bytes := b_Mo_within) hc fm_T0_good (fm_EX_st b x) hex q_1049 q_13 q_1047 q_1048 pd_Mo_within (c_Mo_within_ok (wi_of8 (in8_of ha))) ⟨rfl, rfl, Nat.le_of_ble_eq_true rfl, Nat.le_of_ble_eq_true rfl⟩ ⟨Nat.le_of_ble_eq_true rfl, Nat.le_of_ble_eq_true rfl⟩ d_Mo_agent_18 (Nat.le_of_ble_eq_true rfl) (fun r n2 M2 hp => ?_)
  obtain ⟨rfl, hq1, hq2⟩ := hp
  replace hq1 := hq1.symm
  replace hq2 := hq2.symm
  subst hq1 hq2
  refine fm_cnt (z' := (0, 0)) rfl (fm_st (st' := [.int (nI 1)]) rfl ?_)
  refine fm_if_eq (tgt := 47) hc d_Mo_agent_21 rfl (fun gQ => absurd gQ (by decide)) (fun _ => ?_)
  refine fm_aload_n hc d_Mo_agent_24 rfl rfl ?_
  refine fm_getR (k := 10) (q := 595) hc K_Mo d_Mo_agent_25 q_895 rfl (by decide) (by omega) (by decide) (by decide) (by decide) rfl (rp_up hR) ?_
  refine fm_iload_n hc d_Mo_agent_28 rfl rfl ?_
  refine fm_zald (j := j) (len := 4) hc 1 d_Mo_agent_29 (by decide) (by omega) (by decide) rfl (by omega) (by decide) ?_
  refine fm_if_eq (tgt := 47) hc d_Mo_agent_30 rfl (fun gQ => absurd gQ hu) (fun _ => ?_)
  refine fm_aload_n hc d_Mo_agent_33 rfl rfl ?_
  refine fm_getR (k := 12) (q := 597) hc K_Mo d_Mo_agent_34 q_897 rfl (by decide) (by omega) (by decide) (by decide) (by decide) rfl (rp_slot hR) ?_
  refine fm_bipush (v := nI 24) hc d_Mo_agent_37 rfl ?_
  refine fm_iload_n hc d_Mo_agent_39 rfl rfl ?_
  refine fm_imul hc d_Mo_agent_40 ?_
  refine fm_top (congrArg Value.int (pk_mul 24 j)) ?_
  refine fm_iload_n hc d_Mo_agent_41 rfl rfl ?_
  refine fm_iadd hc d_Mo_agent_42 ?_
  refine fm_top (congrArg Value.int (nI_add (24 * j) a)) ?_
  refine fm_iald (j := (24 * j) + a) (len := 96) hc 0 d_Mo_agent_43 (by decide) (by omega) (by decide) rfl (by omega) (by decide) ?_
  refine fm_top (congrArg Value.int (show (fm_put1 M 586 0 (nI 0)).1 597 ((24 * j) + a) = nI sl from ((o1 _ _ (by decide)).trans hs))) ?_
  refine fm_if_ne (tgt := 49) hc d_Mo_agent_44 rfl (fun _ => ?_) (fun gQ => absurd gQ (fun e => h0 (nI_inj (c := 0) (by omega) (by decide) e)))
  refine fm_bipush (v := nI 24) hc d_Mo_agent_49 rfl ?_
  refine fm_iload_n hc d_Mo_agent_51 rfl rfl ?_
  refine fm_imul hc d_Mo_agent_52 ?_
  refine fm_top (congrArg Value.int (pk_mul 24 j)) ?_
  refine fm_iload_n hc d_Mo_agent_53 rfl rfl ?_
  refine fm_iadd hc d_Mo_agent_54 ?_
  refine fm_top (congrArg Value.int (nI_add (24 * j) a)) ?_
  refine fm_istore (lv' := [(4, .int (nI ((24 * j) + a))), (0, .ref 586), (1, .int (nI j)), (2, .int (nI a)), (3, .int (nI (10 + k)))]) hc d_Mo_agent_55 (by decide) rfl ?_
  refine fm_iload_n hc d_Mo_agent_57 rfl rfl ?_
  refine fm_tableOut (tgt := 155) hc d_Mo_agent_58 (t10_out (c := 6) (by omega) (by decide)) rfl ?_
  refine fm_iload_n hc d_Mo_agent_155 rfl rfl ?_
  refine fm_bipush (v := nI 10) hc d_Mo_agent_156 rfl ?_
  refine fm_icmp_lt (tgt := 175) hc d_Mo_agent_158 rfl (fun gQ => absurd gQ (t10_lt (by omega))) (fun _ => ?_)
  refine fm_iload_n hc d_Mo_agent_161 rfl rfl ?_
  refine fm_bipush (v := nI 10) hc d_Mo_agent_162 rfl ?_
  refine fm_isub hc d_Mo_agent_164 ?_
  refine fm_top (congrArg Value.int (pk_sub (a := 10 + k) (b := 10) (by omega))) ?_
  refine fm_top (congrArg Value.int (show nI ((10 + k) - 10) = nI k from (congrArg nI (by omega)))) ?_
  refine fm_aload_n hc d_Mo_agent_165 rfl rfl ?_
  refine fm_getR (k := 27) (q := 612) hc K_Mo d_Mo_agent_166 q_912 rfl (by decide) (by omega) (by decide) (by decide) (by decide) rfl (rp_size hR) ?_
  refine fm_iload hc d_Mo_agent_169 rfl ?_
  refine fm_iald (j := (24 * j) + a) (len := 98) hc 0 d_Mo_agent_171 (by decide) (by omega) (by decide) rfl (by omega) (by decide) ?_
  refine fm_top (congrArg Value.int (show (fm_put1 M 586 0 (nI 0)).1 612 ((24 * j) + a) = nI A.2.1.length from ((o1 _ _ (by decide)).trans h.2.1))) ?_
  refine fm_icmp_lt (tgt := 179) hc d_Mo_agent_172 rfl (fun _ => ?_) (fun gQ => absurd (nI_ltB hkl (by omega)) gQ)
  refine fm_aload_n hc d_Mo_agent_179 rfl rfl ?_
  refine fm_getR (k := 28) (q := 613) hc K_Mo d_Mo_agent_180 q_913 rfl (by decide) (by omega) (by decide) (by decide) (by decide) rfl (rp_stack hR) ?_
  refine fm_bipush (v := nI 6) hc d_Mo_agent_183 rfl ?_
  refine fm_iload hc d_Mo_agent_185 rfl ?_
  refine fm_imul hc d_Mo_agent_187 ?_
  refine fm_top (congrArg Value.int (pk_mul 6 ((24 * j) + a))) ?_
  refine fm_iload_n hc d_Mo_agent_188 rfl rfl ?_
  refine fm_iadd hc d_Mo_agent_189 ?_
  refine fm_top (congrArg Value.int (nI_add (6 * ((24 * j) + a)) (10 + k))) ?_
  refine fm_bipush (v := nI 10) hc d_Mo_agent_190 rfl ?_
  refine fm_isub hc d_Mo_agent_192 ?_
  refine fm_top (congrArg Value.int (pk_sub (a := (6 * ((24 * j) + a)) + (10 + k)) (b := 10) (by omega))) ?_
  refine fm_top (congrArg Value.int (show nI (((6 * ((24 * j) + a)) + (10 + k)) - 10) = nI (6 * (24 * j + a) + k) from (congrArg nI (by omega)))) ?_
  refine fm_lald (j := 6 * (24 * j + a) + k) (len := 588) hc 3 d_Mo_agent_193 (by decide) (by omega) (by decide) rfl (by omega) (by decide) ?_
  refine fm_top (congrArg Value.long (show (fm_put1 M 586 0 (nI 0)).2.1 613 (6 * (24 * j + a) + k) = e64 (bf_map g (.inr y)) from (h.2.2.2.2.1 k _ hk))) ?_
  refine fm_ldc2 (v := 1099511627776) hc d_Mo_agent_194 q_1098 ?_
  refine fm_lcmp hc d_Mo_agent_197 ?_
  refine fm_if_ge (tgt := 205) hc d_Mo_agent_198 rfl (fun _ => ?_) (fun gQ => absurd ((lg_cmp_ge _ _).mpr (Int64.not_lt.mp (vx_pair (g y) (by have := h.2.2.1 y (ok.2.2.1 _ (List.mem_of_getElem? hk)); omega)))) gQ)
  refine fm_iconst (v := nI 1) hc d_Mo_agent_205 rfl ?_
  exact fm_iret hc hr d_Mo_agent_206 (Nat.le_refl _) (Nat.le_refl _) ⟨rfl, rfl, rfl⟩
theorem r_agt_lo {l : Launch} {b : Nat} {x : Nat → Nat} {D : va_G} {dA : Nat → ClassId} {j a sl : Nat} {u : Int32} {A : ag_T} {g : Nat → Nat} {n : Nat} {M : fm_M} (hn : 629 ≤ n) (hR : fm_RP M) (hj : j < 4) (ha : a < 8) (hu : ¬ M.1 595 j = 0) (hs : M.1 597 (24 * j + a) = nI sl) (hs4 : sl ≤ 4) (h0 : ¬ sl = 0) (h : hr_G M (24 * j + a) F_m A g) (ok : ag_ok A) (ho : u.toInt < 0 ∨ 6 < u.toInt) (hx : u < nI 10) : Met l y_Mo_agent (Cond.code y_Mo_agent b_Mo_agent 5 (some .int) :: fm_T0) ({ frames := 3, cells := 0, slots := 0, locals := 70 }) (fm_Pc fm_lay fm_nf fm_fk fm_cl b x D dA (fm_tys dA) (fm_EX b x) false [.ref 586, .int (nI j), .int (nI a), .int u] n M) (fm_Qc fm_lay fm_nf fm_fk fm_cl b x D dA (fun r n' M' => r = some (.int (-1)) ∧ n' = n ∧ M' = fm_put1 M 586 0 (nI 0))) 0 0 (fm_A b) := by
  refine fm_enter (by decide) (Nat.le_of_ble_eq_true rfl) ?_
  intro p e s m args below meth c9 hc hr hnm hex htg
  have ok1 := ok.1
  have o1 : ∀ q i, q ≠ 586 → (fm_put1 M 586 0 (nI 0)).1 q i = M.1 q i := fun q i e => p1_other e
  refine fm_aload_n hc d_Mo_agent_0 rfl rfl ?_
  refine fm_iconst (v := nI 0) hc d_Mo_agent_1 rfl ?_
  refine fm_putI (k := 0) (v := nI 0) hc K_Mo d_Mo_agent_2 q_885 rfl (by decide) (by omega) (by decide) (by decide) (by decide) rfl rfl rfl rfl ?_
  refine fm_mem (M' := fm_put1 M 586 0 (nI 0)) rfl rfl ?_
  refine fm_iload_n hc d_Mo_agent_5 rfl rfl ?_
  refine fm_iconst (v := nI 0) hc d_Mo_agent_6 rfl ?_
  refine fm_iconst (v := nI 3) hc d_Mo_agent_7 rfl ?_
  refine fm_callS (av := [.int (nI j), .int (nI 0), .int (nI 3)]) (rest := []) (y := y_Mo_within) (bytes := b_Mo_within) hc fm_T0_good (fm_EX_st b x) hex q_1049 q_13 q_1047 q_1048 pd_Mo_within (c_Mo_within_ok (wi_of4 (in4_of hj))) ⟨rfl, rfl, Nat.le_of_ble_eq_true rfl, Nat.le_of_ble_eq_true rfl⟩ ⟨Nat.le_of_ble_eq_true rfl, Nat.le_of_ble_eq_true rfl⟩ d_Mo_agent_8 (Nat.le_of_ble_eq_true rfl) (fun r n2 M2 hp => ?_)
  obtain ⟨rfl, hq1, hq2⟩ := hp
  replace hq1 := hq1.symm
  replace hq2 := hq2.symm
  subst hq1 hq2
  refine fm_cnt (z' := (0, 0)) rfl (fm_st (st' := [.int (nI 1)]) rfl ?_)
  refine fm_if_eq (tgt := 47) hc d_Mo_agent_11 rfl (fun gQ => absurd gQ (by decide)) (fun _ => ?_)
  refine fm_iload_n hc d_Mo_agent_14 rfl rfl ?_
  refine fm_iconst (v := nI 0) hc d_Mo_agent_15 rfl ?_
  refine fm_bipush (v := nI 7) hc d_Mo_agent_16 rfl ?_
  refine fm_callS (av := [.int (nI a), .int (nI 0), .int (nI 7)]) (rest := []) (y := y_Mo_within) (bytes := b_Mo_within) hc fm_T0_good (fm_EX_st b x) hex q_1049 q_13 q_1047 q_1048 pd_Mo_within (c_Mo_within_ok (wi_of8 (in8_of ha))) ⟨rfl, rfl, Nat.le_of_ble_eq_true rfl, Nat.le_of_ble_eq_true rfl⟩ ⟨Nat.le_of_ble_eq_true rfl, Nat.le_of_ble_eq_true rfl⟩ d_Mo_agent_18 (Nat.le_of_ble_eq_true rfl) (fun r n2 M2 hp => ?_)
  obtain ⟨rfl, hq1, hq2⟩ := hp
  replace hq1 := hq1.symm
  replace hq2 := hq2.symm
  subst hq1 hq2
  refine fm_cnt (z' := (0, 0)) rfl (fm_st (st' := [.int (nI 1)]) rfl ?_)
  refine fm_if_eq (tgt := 47) hc d_Mo_agent_21 rfl (fun gQ => absurd gQ (by decide)) (fun _ => ?_)
  refine fm_aload_n hc d_Mo_agent_24 rfl rfl ?_
  refine fm_getR (k := 10) (q := 595) hc K_Mo d_Mo_agent_25 q_895 rfl (by decide) (by omega) (by decide) (by decide) (by decide) rfl (rp_up hR) ?_
  refine fm_iload_n hc d_Mo_agent_28 rfl rfl ?_
  refine fm_zald (j := j) (len := 4) hc 1 d_Mo_agent_29 (by decide) (by omega) (by decide) rfl (by omega) (by decide) ?_
  refine fm_if_eq (tgt := 47) hc d_Mo_agent_30 rfl (fun gQ => absurd gQ hu) (fun _ => ?_)
  refine fm_aload_n hc d_Mo_agent_33 rfl rfl ?_
  refine fm_getR (k := 12) (q := 597) hc K_Mo d_Mo_agent_34 q_897 rfl (by decide) (by omega) (by decide) (by decide) (by decide) rfl (rp_slot hR) ?_
  refine fm_bipush (v := nI 24) hc d_Mo_agent_37 rfl ?_
  refine fm_iload_n hc d_Mo_agent_39 rfl rfl ?_
  refine fm_imul hc d_Mo_agent_40 ?_
  refine fm_top (congrArg Value.int (pk_mul 24 j)) ?_
  refine fm_iload_n hc d_Mo_agent_41 rfl rfl ?_
  refine fm_iadd hc d_Mo_agent_42 ?_
  refine fm_top (congrArg Value.int (nI_add (24 * j) a)) ?_
  refine fm_iald (j := (24 * j) + a) (len := 96) hc 0 d_Mo_agent_43 (by decide) (by omega) (by decide) rfl (by omega) (by decide) ?_
  refine fm_top (congrArg Value.int (show (fm_put1 M 586 0 (nI 0)).1 597 ((24 * j) + a) = nI sl from ((o1 _ _ (by decide)).trans hs))) ?_
  refine fm_if_ne (tgt := 49) hc d_Mo_agent_44 rfl (fun _ => ?_) (fun gQ => absurd gQ (fun e => h0 (nI_inj (c := 0) (by omega) (by decide) e)))
  refine fm_bipush (v := nI 24) hc d_Mo_agent_49 rfl ?_
  refine fm_iload_n hc d_Mo_agent_51 rfl rfl ?_
  refine fm_imul hc d_Mo_agent_52 ?_
  refine fm_top (congrArg Value.int (pk_mul 24 j)) ?_
  refine fm_iload_n hc d_Mo_agent_53 rfl rfl ?_
  refine fm_iadd hc d_Mo_agent_54 ?_
  refine fm_top (congrArg Value.int (nI_add (24 * j) a)) ?_
  refine fm_istore (lv' := [(4, .int (nI ((24 * j) + a))), (0, .ref 586), (1, .int (nI j)), (2, .int (nI a)), (3, .int u)]) hc d_Mo_agent_55 (by decide) rfl ?_
  refine fm_iload_n hc d_Mo_agent_57 rfl rfl ?_
  refine fm_tableOut (tgt := 155) hc d_Mo_agent_58 ho rfl ?_
  refine fm_iload_n hc d_Mo_agent_155 rfl rfl ?_
  refine fm_bipush (v := nI 10) hc d_Mo_agent_156 rfl ?_
  refine fm_icmp_lt (tgt := 175) hc d_Mo_agent_158 rfl (fun _ => ?_) (fun gQ => absurd hx gQ)
  refine fm_iconst (v := (-1)) hc d_Mo_agent_175 rfl ?_
  refine fm_goto (tgt := 206) hc d_Mo_agent_176 rfl ?_
  exact fm_iret hc hr d_Mo_agent_206 (Nat.le_refl _) (Nat.le_refl _) ⟨rfl, rfl, rfl⟩
theorem r_agt_hi {l : Launch} {b : Nat} {x : Nat → Nat} {D : va_G} {dA : Nat → ClassId} {j a sl : Nat} {u : Int32} {A : ag_T} {g : Nat → Nat} {n : Nat} {M : fm_M} (hn : 629 ≤ n) (hR : fm_RP M) (hj : j < 4) (ha : a < 8) (hu : ¬ M.1 595 j = 0) (hs : M.1 597 (24 * j + a) = nI sl) (hs4 : sl ≤ 4) (h0 : ¬ sl = 0) (h : hr_G M (24 * j + a) F_m A g) (ok : ag_ok A) (ho : u.toInt < 0 ∨ 6 < u.toInt) (hx : ¬ u < nI 10) (hy : ¬ u - nI 10 < nI A.2.1.length) : Met l y_Mo_agent (Cond.code y_Mo_agent b_Mo_agent 5 (some .int) :: fm_T0) ({ frames := 3, cells := 0, slots := 0, locals := 70 }) (fm_Pc fm_lay fm_nf fm_fk fm_cl b x D dA (fm_tys dA) (fm_EX b x) false [.ref 586, .int (nI j), .int (nI a), .int u] n M) (fm_Qc fm_lay fm_nf fm_fk fm_cl b x D dA (fun r n' M' => r = some (.int (-1)) ∧ n' = n ∧ M' = fm_put1 M 586 0 (nI 0))) 0 0 (fm_A b) := by
  refine fm_enter (by decide) (Nat.le_of_ble_eq_true rfl) ?_
  intro p e s m args below meth c9 hc hr hnm hex htg
  have ok1 := ok.1
  have o1 : ∀ q i, q ≠ 586 → (fm_put1 M 586 0 (nI 0)).1 q i = M.1 q i := fun q i e => p1_other e
  refine fm_aload_n hc d_Mo_agent_0 rfl rfl ?_
  refine fm_iconst (v := nI 0) hc d_Mo_agent_1 rfl ?_
  refine fm_putI (k := 0) (v := nI 0) hc K_Mo d_Mo_agent_2 q_885 rfl (by decide) (by omega) (by decide) (by decide) (by decide) rfl rfl rfl rfl ?_
  refine fm_mem (M' := fm_put1 M 586 0 (nI 0)) rfl rfl ?_
  refine fm_iload_n hc d_Mo_agent_5 rfl rfl ?_
  refine fm_iconst (v := nI 0) hc d_Mo_agent_6 rfl ?_
  refine fm_iconst (v := nI 3) hc d_Mo_agent_7 rfl ?_
  refine fm_callS (av := [.int (nI j), .int (nI 0), .int (nI 3)]) (rest := []) (y := y_Mo_within) (bytes := b_Mo_within) hc fm_T0_good (fm_EX_st b x) hex q_1049 q_13 q_1047 q_1048 pd_Mo_within (c_Mo_within_ok (wi_of4 (in4_of hj))) ⟨rfl, rfl, Nat.le_of_ble_eq_true rfl, Nat.le_of_ble_eq_true rfl⟩ ⟨Nat.le_of_ble_eq_true rfl, Nat.le_of_ble_eq_true rfl⟩ d_Mo_agent_8 (Nat.le_of_ble_eq_true rfl) (fun r n2 M2 hp => ?_)
  obtain ⟨rfl, hq1, hq2⟩ := hp
  replace hq1 := hq1.symm
  replace hq2 := hq2.symm
  subst hq1 hq2
  refine fm_cnt (z' := (0, 0)) rfl (fm_st (st' := [.int (nI 1)]) rfl ?_)
  refine fm_if_eq (tgt := 47) hc d_Mo_agent_11 rfl (fun gQ => absurd gQ (by decide)) (fun _ => ?_)
  refine fm_iload_n hc d_Mo_agent_14 rfl rfl ?_
  refine fm_iconst (v := nI 0) hc d_Mo_agent_15 rfl ?_
  refine fm_bipush (v := nI 7) hc d_Mo_agent_16 rfl ?_
  refine fm_callS (av := [.int (nI a), .int (nI 0), .int (nI 7)]) (rest := []) (y := y_Mo_within) (bytes := b_Mo_within) hc fm_T0_good (fm_EX_st b x) hex q_1049 q_13 q_1047 q_1048 pd_Mo_within (c_Mo_within_ok (wi_of8 (in8_of ha))) ⟨rfl, rfl, Nat.le_of_ble_eq_true rfl, Nat.le_of_ble_eq_true rfl⟩ ⟨Nat.le_of_ble_eq_true rfl, Nat.le_of_ble_eq_true rfl⟩ d_Mo_agent_18 (Nat.le_of_ble_eq_true rfl) (fun r n2 M2 hp => ?_)
  obtain ⟨rfl, hq1, hq2⟩ := hp
  replace hq1 := hq1.symm
  replace hq2 := hq2.symm
  subst hq1 hq2
  refine fm_cnt (z' := (0, 0)) rfl (fm_st (st' := [.int (nI 1)]) rfl ?_)
  refine fm_if_eq (tgt := 47) hc d_Mo_agent_21 rfl (fun gQ => absurd gQ (by decide)) (fun _ => ?_)
  refine fm_aload_n hc d_Mo_agent_24 rfl rfl ?_
  refine fm_getR (k := 10) (q := 595) hc K_Mo d_Mo_agent_25 q_895 rfl (by decide) (by omega) (by decide) (by decide) (by decide) rfl (rp_up hR) ?_
  refine fm_iload_n hc d_Mo_agent_28 rfl rfl ?_
  refine fm_zald (j := j) (len := 4) hc 1 d_Mo_agent_29 (by decide) (by omega) (by decide) rfl (by omega) (by decide) ?_
  refine fm_if_eq (tgt := 47) hc d_Mo_agent_30 rfl (fun gQ => absurd gQ hu) (fun _ => ?_)
  refine fm_aload_n hc d_Mo_agent_33 rfl rfl ?_
  refine fm_getR (k := 12) (q := 597) hc K_Mo d_Mo_agent_34 q_897 rfl (by decide) (by omega) (by decide) (by decide) (by decide) rfl (rp_slot hR) ?_
  refine fm_bipush (v := nI 24) hc d_Mo_agent_37 rfl ?_
  refine fm_iload_n hc d_Mo_agent_39 rfl rfl ?_
  refine fm_imul hc d_Mo_agent_40 ?_
  refine fm_top (congrArg Value.int (pk_mul 24 j)) ?_
  refine fm_iload_n hc d_Mo_agent_41 rfl rfl ?_
  refine fm_iadd hc d_Mo_agent_42 ?_
  refine fm_top (congrArg Value.int (nI_add (24 * j) a)) ?_
  refine fm_iald (j := (24 * j) + a) (len := 96) hc 0 d_Mo_agent_43 (by decide) (by omega) (by decide) rfl (by omega) (by decide) ?_
  refine fm_top (congrArg Value.int (show (fm_put1 M 586 0 (nI 0)).1 597 ((24 * j) + a) = nI sl from ((o1 _ _ (by decide)).trans hs))) ?_
  refine fm_if_ne (tgt := 49) hc d_Mo_agent_44 rfl (fun _ => ?_) (fun gQ => absurd gQ (fun e => h0 (nI_inj (c := 0) (by omega) (by decide) e)))
  refine fm_bipush (v := nI 24) hc d_Mo_agent_49 rfl ?_
  refine fm_iload_n hc d_Mo_agent_51 rfl rfl ?_
  refine fm_imul hc d_Mo_agent_52 ?_
  refine fm_top (congrArg Value.int (pk_mul 24 j)) ?_
  refine fm_iload_n hc d_Mo_agent_53 rfl rfl ?_
  refine fm_iadd hc d_Mo_agent_54 ?_
  refine fm_top (congrArg Value.int (nI_add (24 * j) a)) ?_
  refine fm_istore (lv' := [(4, .int (nI ((24 * j) + a))), (0, .ref 586), (1, .int (nI j)), (2, .int (nI a)), (3, .int u)]) hc d_Mo_agent_55 (by decide) rfl ?_
  refine fm_iload_n hc d_Mo_agent_57 rfl rfl ?_
  refine fm_tableOut (tgt := 155) hc d_Mo_agent_58 ho rfl ?_
  refine fm_iload_n hc d_Mo_agent_155 rfl rfl ?_
  refine fm_bipush (v := nI 10) hc d_Mo_agent_156 rfl ?_
  refine fm_icmp_lt (tgt := 175) hc d_Mo_agent_158 rfl (fun gQ => absurd gQ hx) (fun _ => ?_)
  refine fm_iload_n hc d_Mo_agent_161 rfl rfl ?_
  refine fm_bipush (v := nI 10) hc d_Mo_agent_162 rfl ?_
  refine fm_isub hc d_Mo_agent_164 ?_
  refine fm_aload_n hc d_Mo_agent_165 rfl rfl ?_
  refine fm_getR (k := 27) (q := 612) hc K_Mo d_Mo_agent_166 q_912 rfl (by decide) (by omega) (by decide) (by decide) (by decide) rfl (rp_size hR) ?_
  refine fm_iload hc d_Mo_agent_169 rfl ?_
  refine fm_iald (j := (24 * j) + a) (len := 98) hc 0 d_Mo_agent_171 (by decide) (by omega) (by decide) rfl (by omega) (by decide) ?_
  refine fm_top (congrArg Value.int (show (fm_put1 M 586 0 (nI 0)).1 612 ((24 * j) + a) = nI A.2.1.length from ((o1 _ _ (by decide)).trans h.2.1))) ?_
  refine fm_icmp_lt (tgt := 179) hc d_Mo_agent_172 rfl (fun gQ => absurd gQ hy) (fun _ => ?_)
  refine fm_iconst (v := (-1)) hc d_Mo_agent_175 rfl ?_
  refine fm_goto (tgt := 206) hc d_Mo_agent_176 rfl ?_
  exact fm_iret hc hr d_Mo_agent_206 (Nat.le_refl _) (Nat.le_refl _) ⟨rfl, rfl, rfl⟩
