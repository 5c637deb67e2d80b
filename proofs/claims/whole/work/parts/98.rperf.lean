/-! THE REFERENCE: speak, travel, perform code by code -/
theorem byte_neg {y : Nat} (h : y < 256) (g : ¬ y ≤ 127) : (nI y - nI 256 : Int32) = (nI y).toInt8.toInt32 := by
  have H : ∀ y : Fin 256, 127 < y.val → (nI y.val - nI 256 : Int32) = (nI y.val).toInt8.toInt32 := by decide +kernel
  exact H ⟨y, h⟩ (by show 127 < y; omega)
theorem byte_pos {y : Nat} (h : y ≤ 127) : (nI y : Int32) = (nI y).toInt8.toInt32 := by
  have H : ∀ y : Fin 128, (nI y.val : Int32) = (nI y.val).toInt8.toInt32 := by decide +kernel
  exact H ⟨y, by omega⟩
theorem nI_nonneg {a : Nat} (h : a < 2 ^ 30) : (0 : Int32) ≤ nI a := nI_le (a := 0) (b := a) (Nat.zero_le _) (by omega)
theorem rc_speak_m {l : Launch} {b : Nat} {x : Nat → Nat} {D : va_G} {dA : Nat → ClassId} {gi he sd : Nat} {v : Int32} {n : Nat} {M : fm_M} (hn : 629 ≤ n) (hR : fm_RP M) (hg : gi < 96) (hh : he < 4) (hs : M.1 609 gi = nI sd) (hs2 : sd < 16) : Met l y_Mo_speak (Cond.code y_Mo_speak b_Mo_speak 4 none :: fm_T0) ({ frames := 0, cells := 0, slots := 0, locals := 0 }) (fm_Pc fm_lay fm_nf fm_fk fm_cl b x D dA (fm_tys dA) (fm_EX b x) false [.ref 586, .int (nI gi), .int (nI he), .int v] n M) (fm_Qc fm_lay fm_nf fm_fk fm_cl b x D dA (fun r n' M' => r = none ∧ n' = n ∧ M' = fm_put1 (fm_put1 (fm_put1 M 603 (16 * gi + sd) v) 609 gi (nI (sd + 1))) 602 gi (nI (sd + 1)))) 0 0 (fm_A b) := by
  refine fm_enter (by decide) (Nat.le_of_ble_eq_true rfl) ?_
  intro p e s m args below meth c9 hc hr hnm hex htg
  refine fm_iload_n hc d_Mo_speak_0 rfl rfl ?_
  refine fm_if_ge (tgt := 35) hc d_Mo_speak_1 rfl (fun _ => ?_) (fun g => absurd (nI_nonneg (by omega)) g)
  refine fm_aload_n hc d_Mo_speak_35 rfl rfl ?_
  refine fm_getR (k := 18) (q := 603) hc K_Mo d_Mo_speak_36 q_903 rfl (by decide) (by omega) (by decide) (by decide) (by decide) rfl (rp_words hR) ?_
  refine fm_bipush (v := nI 16) hc d_Mo_speak_39 rfl ?_
  refine fm_iload_n hc d_Mo_speak_41 rfl rfl ?_
  refine fm_imul hc d_Mo_speak_42 ?_
  refine fm_top (congrArg Value.int (pk_mul 16 gi)) ?_
  refine fm_aload_n hc d_Mo_speak_43 rfl rfl ?_
  refine fm_getR (k := 24) (q := 609) hc K_Mo d_Mo_speak_44 q_909 rfl (by decide) (by omega) (by decide) (by decide) (by decide) rfl (rp_said hR) ?_
  refine fm_iload_n hc d_Mo_speak_47 rfl rfl ?_
  refine fm_iald (j := gi) (len := 98) hc 0 d_Mo_speak_48 (by decide) (by omega) (by decide) rfl (by omega) (by decide) ?_
  refine fm_top (congrArg Value.int hs) ?_
  refine fm_iadd hc d_Mo_speak_49 ?_
  refine fm_top (congrArg Value.int (nI_add (16 * gi) sd)) ?_
  refine fm_iload_n hc d_Mo_speak_50 rfl rfl ?_
  refine fm_iast (j := (16 * gi) + sd) (len := 1536) (v := v) hc 0 d_Mo_speak_51 (by decide) (by omega) (by decide) rfl (by omega) (by decide) ?_
  refine fm_aload_n hc d_Mo_speak_52 rfl rfl ?_
  refine fm_getR (k := 24) (q := 609) hc K_Mo d_Mo_speak_53 q_909 rfl (by decide) (by omega) (by decide) (by decide) (by decide) rfl (rp_said hR) ?_
  refine fm_iload_n hc d_Mo_speak_56 rfl rfl ?_
  refine fm_dup2_11 hc d_Mo_speak_57 rfl rfl ?_
  refine fm_iald (j := gi) (len := 98) hc 0 d_Mo_speak_58 (by decide) (by omega) (by decide) rfl (by omega) (by decide) ?_
  refine fm_top (congrArg Value.int (show (fm_put1 M 603 (16 * gi + sd) v).1 609 gi = nI sd from (p1_other (by decide)).trans hs)) ?_
  refine fm_iconst (v := nI 1) hc d_Mo_speak_59 rfl ?_
  refine fm_iadd hc d_Mo_speak_60 ?_
  refine fm_top (congrArg Value.int (nI_add sd 1)) ?_
  refine fm_iast (j := gi) (len := 98) (v := nI (sd + 1)) hc 0 d_Mo_speak_61 (by decide) (by omega) (by decide) rfl (by omega) (by decide) ?_
  refine fm_aload_n hc d_Mo_speak_62 rfl rfl ?_
  refine fm_getR (k := 17) (q := 602) hc K_Mo d_Mo_speak_63 q_902 rfl (by decide) (by omega) (by decide) (by decide) (by decide) rfl (rp_told hR) ?_
  refine fm_iload_n hc d_Mo_speak_66 rfl rfl ?_
  refine fm_aload_n hc d_Mo_speak_67 rfl rfl ?_
  refine fm_getR (k := 24) (q := 609) hc K_Mo d_Mo_speak_68 q_909 rfl (by decide) (by omega) (by decide) (by decide) (by decide) rfl (rp_said hR) ?_
  refine fm_iload_n hc d_Mo_speak_71 rfl rfl ?_
  refine fm_iald (j := gi) (len := 98) hc 0 d_Mo_speak_72 (by decide) (by omega) (by decide) rfl (by omega) (by decide) ?_
  refine fm_top (congrArg Value.int (p1_same _ _ _ _)) ?_
  refine fm_iast (j := gi) (len := 96) (v := nI (sd + 1)) hc 0 d_Mo_speak_73 (by decide) (by omega) (by decide) rfl (by omega) (by decide) ?_
  exact fm_vret hc hr d_Mo_speak_74 (Nat.le_refl _) (Nat.le_refl _) ⟨rfl, rfl, rfl⟩
theorem rc_speak_f {l : Launch} {b : Nat} {x : Nat → Nat} {D : va_G} {dA : Nat → ClassId} {gi sd fc : Nat} {v : Int32} {n : Nat} {M : fm_M} (hn : 629 ≤ n) (hR : fm_RP M) (hg : gi < 98) (hs : M.1 609 gi = nI sd) (hf : M.1 586 48 = nI fc) (hf2 : fc < 16) : Met l y_Mo_speak (Cond.code y_Mo_speak b_Mo_speak 4 none :: fm_T0) ({ frames := 0, cells := 0, slots := 0, locals := 0 }) (fm_Pc fm_lay fm_nf fm_fk fm_cl b x D dA (fm_tys dA) (fm_EX b x) false [.ref 586, .int (nI gi), .int (-1), .int v] n M) (fm_Qc fm_lay fm_nf fm_fk fm_cl b x D dA (fun r n' M' => r = none ∧ n' = n ∧ M' = fm_put1 (fm_put1 (fm_put1 M 628 fc v) 586 48 (nI (fc + 1))) 609 gi (nI (sd + 1)))) 0 0 (fm_A b) := by
  refine fm_enter (by decide) (Nat.le_of_ble_eq_true rfl) ?_
  intro p e s m args below meth c9 hc hr hnm hex htg
  refine fm_iload_n hc d_Mo_speak_0 rfl rfl ?_
  refine fm_if_ge (tgt := 35) hc d_Mo_speak_1 rfl (fun g => absurd g (by decide)) (fun _ => ?_)
  refine fm_aload_n hc d_Mo_speak_4 rfl rfl ?_
  refine fm_getR (k := 49) (q := 628) hc K_Mo d_Mo_speak_5 q_934 rfl (by decide) (by omega) (by decide) (by decide) (by decide) rfl (rp_freeWords hR) ?_
  refine fm_aload_n hc d_Mo_speak_8 rfl rfl ?_
  refine fm_getI (k := 48) hc K_Mo d_Mo_speak_9 q_933 rfl (by decide) (by omega) (by decide) (by decide) (by decide) rfl ?_
  refine fm_top (congrArg Value.int hf) ?_
  refine fm_iload_n hc d_Mo_speak_12 rfl rfl ?_
  refine fm_iast (j := fc) (len := 16) (v := v) hc 0 d_Mo_speak_13 (by decide) (by omega) (by decide) rfl (by omega) (by decide) ?_
  refine fm_aload_n hc d_Mo_speak_14 rfl rfl ?_
  refine fm_dup hc d_Mo_speak_15 rfl ?_
  refine fm_getI (k := 48) hc K_Mo d_Mo_speak_16 q_933 rfl (by decide) (by omega) (by decide) (by decide) (by decide) rfl ?_
  refine fm_top (congrArg Value.int (show (fm_put1 M 628 fc v).1 586 48 = nI fc from (p1_other (by decide)).trans hf)) ?_
  refine fm_iconst (v := nI 1) hc d_Mo_speak_19 rfl ?_
  refine fm_iadd hc d_Mo_speak_20 ?_
  refine fm_top (congrArg Value.int (nI_add fc 1)) ?_
  refine fm_putI (k := 48) (v := nI (fc + 1)) hc K_Mo d_Mo_speak_21 q_933 rfl (by decide) (by omega) (by decide) (by decide) (by decide) rfl rfl rfl rfl ?_
  refine fm_aload_n hc d_Mo_speak_24 rfl rfl ?_
  refine fm_getR (k := 24) (q := 609) hc K_Mo d_Mo_speak_25 q_909 rfl (by decide) (by omega) (by decide) (by decide) (by decide) rfl (rp_said hR) ?_
  refine fm_iload_n hc d_Mo_speak_28 rfl rfl ?_
  refine fm_dup2_11 hc d_Mo_speak_29 rfl rfl ?_
  refine fm_iald (j := gi) (len := 98) hc 0 d_Mo_speak_30 (by decide) (by omega) (by decide) rfl (by omega) (by decide) ?_
  refine fm_top (congrArg Value.int (show (fm_put1 (fm_put1 M 628 fc v) 586 48 (nI (fc + 1))).1 609 gi = nI sd from (p1_other (by decide)).trans ((p1_other (by decide)).trans hs))) ?_
  refine fm_iconst (v := nI 1) hc d_Mo_speak_31 rfl ?_
  refine fm_iadd hc d_Mo_speak_32 ?_
  refine fm_top (congrArg Value.int (nI_add sd 1)) ?_
  refine fm_iast (j := gi) (len := 98) (v := nI (sd + 1)) hc 0 d_Mo_speak_33 (by decide) (by omega) (by decide) rfl (by omega) (by decide) ?_
  exact fm_vret hc hr d_Mo_speak_34 (Nat.le_refl _) (Nat.le_refl _) ⟨rfl, rfl, rfl⟩
theorem rc_travel_s {l : Launch} {b : Nat} {x : Nat → Nat} {D : va_G} {dA : Nat → ClassId} {gi he : Nat} {v : Int32} {n : Nat} {M : fm_M} (hn : 629 ≤ n) (hR : fm_RP M) (hg : gi < 96) (hh : he < 4) (h1 : v = nI he) : Met l y_Mo_travel (Cond.code y_Mo_travel b_Mo_travel 4 none :: fm_T0) ({ frames := 0, cells := 0, slots := 0, locals := 0 }) (fm_Pc fm_lay fm_nf fm_fk fm_cl b x D dA (fm_tys dA) (fm_EX b x) false [.ref 586, .int (nI gi), .int (nI he), .int v] n M) (fm_Qc fm_lay fm_nf fm_fk fm_cl b x D dA (fun r n' M' => r = none ∧ n' = n ∧ M' = M)) 0 0 (fm_A b) := by
  refine fm_enter (by decide) (Nat.le_of_ble_eq_true rfl) ?_
  intro p e s m args below meth c9 hc hr hnm hex htg
  refine fm_iload_n hc d_Mo_travel_0 rfl rfl ?_
  refine fm_if_ge (tgt := 12) hc d_Mo_travel_1 rfl (fun _ => ?_) (fun g => absurd (nI_nonneg (by omega)) g)
  refine fm_iload_n hc d_Mo_travel_12 rfl rfl ?_
  refine fm_iload_n hc d_Mo_travel_13 rfl rfl ?_
  refine fm_icmp_eq (tgt := 48) hc d_Mo_travel_14 rfl (fun _ => ?_) (fun g => absurd h1 g)
  exact fm_vret hc hr d_Mo_travel_48 (Nat.le_refl _) (Nat.le_refl _) ⟨rfl, rfl, rfl⟩
theorem rc_travel_m {l : Launch} {b : Nat} {x : Nat → Nat} {D : va_G} {dA : Nat → ClassId} {gi he hp : Nat} {v : Int32} {n : Nat} {M : fm_M} (hn : 629 ≤ n) (hR : fm_RP M) (hg : gi < 96) (hh : he < 4) (hp9 : M.1 608 gi = nI hp) (h1 : ¬ v = nI he) : Met l y_Mo_travel (Cond.code y_Mo_travel b_Mo_travel 4 none :: fm_T0) ({ frames := 0, cells := 0, slots := 0, locals := 0 }) (fm_Pc fm_lay fm_nf fm_fk fm_cl b x D dA (fm_tys dA) (fm_EX b x) false [.ref 586, .int (nI gi), .int (nI he), .int v] n M) (fm_Qc fm_lay fm_nf fm_fk fm_cl b x D dA (fun r n' M' => r = none ∧ n' = n ∧ M' = fm_put1 (fm_put1 (fm_put1 (fm_put1 M 608 gi (nI (hp + 1))) 597 gi (nI 2)) 598 gi v) 601 gi v)) 0 0 (fm_A b) := by
  refine fm_enter (by decide) (Nat.le_of_ble_eq_true rfl) ?_
  intro p e s m args below meth c9 hc hr hnm hex htg
  refine fm_iload_n hc d_Mo_travel_0 rfl rfl ?_
  refine fm_if_ge (tgt := 12) hc d_Mo_travel_1 rfl (fun _ => ?_) (fun g => absurd (nI_nonneg (by omega)) g)
  refine fm_iload_n hc d_Mo_travel_12 rfl rfl ?_
  refine fm_iload_n hc d_Mo_travel_13 rfl rfl ?_
  refine fm_icmp_eq (tgt := 48) hc d_Mo_travel_14 rfl (fun g => absurd g h1) (fun _ => ?_)
  refine fm_aload_n hc d_Mo_travel_17 rfl rfl ?_
  refine fm_getR (k := 23) (q := 608) hc K_Mo d_Mo_travel_18 q_908 rfl (by decide) (by omega) (by decide) (by decide) (by decide) rfl (rp_hops hR) ?_
  refine fm_iload_n hc d_Mo_travel_21 rfl rfl ?_
  refine fm_dup2_11 hc d_Mo_travel_22 rfl rfl ?_
  refine fm_iald (j := gi) (len := 98) hc 0 d_Mo_travel_23 (by decide) (by omega) (by decide) rfl (by omega) (by decide) ?_
  refine fm_top (congrArg Value.int hp9) ?_
  refine fm_iconst (v := nI 1) hc d_Mo_travel_24 rfl ?_
  refine fm_iadd hc d_Mo_travel_25 ?_
  refine fm_top (congrArg Value.int (nI_add hp 1)) ?_
  refine fm_iast (j := gi) (len := 98) (v := nI (hp + 1)) hc 0 d_Mo_travel_26 (by decide) (by omega) (by decide) rfl (by omega) (by decide) ?_
  refine fm_aload_n hc d_Mo_travel_27 rfl rfl ?_
  refine fm_getR (k := 12) (q := 597) hc K_Mo d_Mo_travel_28 q_897 rfl (by decide) (by omega) (by decide) (by decide) (by decide) rfl (rp_slot hR) ?_
  refine fm_iload_n hc d_Mo_travel_31 rfl rfl ?_
  refine fm_iconst (v := nI 2) hc d_Mo_travel_32 rfl ?_
  refine fm_iast (j := gi) (len := 96) (v := nI 2) hc 0 d_Mo_travel_33 (by decide) (by omega) (by decide) rfl (by omega) (by decide) ?_
  refine fm_aload_n hc d_Mo_travel_34 rfl rfl ?_
  refine fm_getR (k := 13) (q := 598) hc K_Mo d_Mo_travel_35 q_898 rfl (by decide) (by omega) (by decide) (by decide) (by decide) rfl (rp_goal hR) ?_
  refine fm_iload_n hc d_Mo_travel_38 rfl rfl ?_
  refine fm_iload_n hc d_Mo_travel_39 rfl rfl ?_
  refine fm_iast (j := gi) (len := 96) (v := v) hc 0 d_Mo_travel_40 (by decide) (by omega) (by decide) rfl (by omega) (by decide) ?_
  refine fm_aload_n hc d_Mo_travel_41 rfl rfl ?_
  refine fm_getR (k := 16) (q := 601) hc K_Mo d_Mo_travel_42 q_901 rfl (by decide) (by omega) (by decide) (by decide) (by decide) rfl (rp_note hR) ?_
  refine fm_iload_n hc d_Mo_travel_45 rfl rfl ?_
  refine fm_iload_n hc d_Mo_travel_46 rfl rfl ?_
  refine fm_iast (j := gi) (len := 96) (v := v) hc 0 d_Mo_travel_47 (by decide) (by omega) (by decide) rfl (by omega) (by decide) ?_
  exact fm_vret hc hr d_Mo_travel_48 (Nat.le_refl _) (Nat.le_refl _) ⟨rfl, rfl, rfl⟩
theorem rc_travel_f {l : Launch} {b : Nat} {x : Nat → Nat} {D : va_G} {dA : Nat → ClassId} {gi : Nat} {v : Int32} {n : Nat} {M : fm_M} (hn : 629 ≤ n) (hR : fm_RP M) : Met l y_Mo_travel (Cond.code y_Mo_travel b_Mo_travel 4 none :: fm_T0) ({ frames := 0, cells := 0, slots := 0, locals := 0 }) (fm_Pc fm_lay fm_nf fm_fk fm_cl b x D dA (fm_tys dA) (fm_EX b x) false [.ref 586, .int (nI gi), .int (-1), .int v] n M) (fm_Qc fm_lay fm_nf fm_fk fm_cl b x D dA (fun r n' M' => r = none ∧ n' = n ∧ M' = fm_put1 M 586 46 v)) 0 0 (fm_A b) := by
  refine fm_enter (by decide) (Nat.le_of_ble_eq_true rfl) ?_
  intro p e s m args below meth c9 hc hr hnm hex htg
  refine fm_iload_n hc d_Mo_travel_0 rfl rfl ?_
  refine fm_if_ge (tgt := 12) hc d_Mo_travel_1 rfl (fun g => absurd g (by decide)) (fun _ => ?_)
  refine fm_aload_n hc d_Mo_travel_4 rfl rfl ?_
  refine fm_iload_n hc d_Mo_travel_5 rfl rfl ?_
  refine fm_putI (k := 46) (v := v) hc K_Mo d_Mo_travel_6 q_931 rfl (by decide) (by omega) (by decide) (by decide) (by decide) rfl rfl rfl rfl ?_
  refine fm_goto (tgt := 48) hc d_Mo_travel_9 rfl ?_
  exact fm_vret hc hr d_Mo_travel_48 (Nat.le_refl _) (Nat.le_refl _) ⟨rfl, rfl, rfl⟩
theorem rq_0 {l : Launch} {b : Nat} {x : Nat → Nat} {D : va_G} {dA : Nat → ClassId} {gi d y : Nat} {h0 : Int32}  {n : Nat} {M : fm_M} (hn : 629 ≤ n) (hR : fm_RP M) (hg : gi < 98) (hd : M.1 612 gi = nI d) (hd6 : d ≤ 6) : Met l y_Mo_perform (Cond.code y_Mo_perform b_Mo_perform 5 none :: fm_T0) ({ frames := 6, cells := 0, slots := 0, locals := 170 }) (fm_Pc fm_lay fm_nf fm_fk fm_cl b x D dA (fm_tys dA) (fm_EX b x) false [.ref 586, .int (nI gi), .int h0, .int (nI 0), .int (nI y)] n M) (fm_Qc fm_lay fm_nf fm_fk fm_cl b x D dA (fun r n' M' => r = none ∧ n' = n ∧ M' = fm_put1 M 586 50 (nI 1))) 0 0 (fm_A b) := by
  refine fm_enter (by decide) (Nat.le_of_ble_eq_true rfl) ?_
  intro p e s m args below meth c9 hc hr hnm hex htg
  refine fm_iload_n hc d_Mo_perform_0 rfl rfl ?_
  refine fm_tableIn (off := 91) (tgt := 92) hc d_Mo_perform_1 (by decide) (by decide) rfl rfl ?_
  refine fm_aload_n hc d_Mo_perform_92 rfl rfl ?_
  refine fm_iconst (v := nI 1) hc d_Mo_perform_93 rfl ?_
  refine fm_putI (k := 50) (v := nI 1) hc K_Mo d_Mo_perform_94 q_935 rfl (by decide) (by omega) (by decide) (by decide) (by decide) rfl rfl rfl rfl ?_
  refine fm_goto (tgt := 391) hc d_Mo_perform_97 rfl ?_
  exact fm_vret hc hr d_Mo_perform_391 (Nat.le_refl _) (Nat.le_refl _) ⟨rfl, rfl, rfl⟩
theorem rq_1a {l : Launch} {b : Nat} {x : Nat → Nat} {D : va_G} {dA : Nat → ClassId} {gi d y : Nat} {h0 : Int32}  {n : Nat} {M : fm_M} (hn : 629 ≤ n) (hR : fm_RP M) (hg : gi < 98) (hd : M.1 612 gi = nI d) (hd6 : d ≤ 6) (hd5 : d < 6) (hy : y ≤ 127) : Met l y_Mo_perform (Cond.code y_Mo_perform b_Mo_perform 5 none :: fm_T0) ({ frames := 6, cells := 0, slots := 0, locals := 170 }) (fm_Pc fm_lay fm_nf fm_fk fm_cl b x D dA (fm_tys dA) (fm_EX b x) false [.ref 586, .int (nI gi), .int h0, .int (nI 1), .int (nI y)] n M) (fm_Qc fm_lay fm_nf fm_fk fm_cl b x D dA (fun r n' M' => r = none ∧ n' = n ∧ M' = fm_put1 (fm_put2 M 613 (6 * gi + d) (((nI y).toInt8.toInt32).toInt64)) 612 gi (nI (d + 1)))) 0 0 (fm_A b) := by
  refine fm_enter (by decide) (Nat.le_of_ble_eq_true rfl) ?_
  intro p e s m args below meth c9 hc hr hnm hex htg
  refine fm_iload_n hc d_Mo_perform_0 rfl rfl ?_
  refine fm_tableIn (off := 99) (tgt := 100) hc d_Mo_perform_1 (by decide) (by decide) rfl rfl ?_
  refine fm_aload_n hc d_Mo_perform_100 rfl rfl ?_
  refine fm_iload_n hc d_Mo_perform_101 rfl rfl ?_
  refine fm_iload hc d_Mo_perform_102 rfl ?_
  refine fm_bipush (v := nI 127) hc d_Mo_perform_104 rfl ?_
  refine fm_icmp_le (tgt := 119) hc d_Mo_perform_106 rfl (fun _ => ?_) (fun g => absurd (nI_le hy (by omega)) g)
  refine fm_iload hc d_Mo_perform_119 rfl ?_
  refine fm_i2l hc d_Mo_perform_121 ?_
  refine fm_top (congrArg Value.long (congrArg Int32.toInt64 (byte_pos hy))) ?_
  refine fm_callV (av := [.int (nI gi), .long (((nI y).toInt8.toInt32).toInt64)]) (rest := []) (ob := 586) (ci := 11) (r0 := ("AgentNetModel", F_Mo, 51)) (y := y_Mo_push) (bytes := b_Mo_push) hc fm_T0_good (fm_EX_st b x) hex q_1121 q_13 q_1118 q_1120 qs_Mo_push pd_Mo_push (by decide) (by omega) (by decide) (by decide) rfl rfl (rc_push hn hR hg hd (by omega)) ⟨rfl, rfl, Nat.le_of_ble_eq_true rfl, Nat.le_of_ble_eq_true rfl⟩ ⟨Nat.le_of_ble_eq_true rfl, Nat.le_of_ble_eq_true rfl⟩ d_Mo_perform_122 (Nat.le_of_ble_eq_true rfl) (fun r n2 M2 hp => ?_)
  obtain ⟨rfl, hq1, hq2⟩ := hp
  replace hq1 := hq1.symm
  replace hq2 := hq2.symm
  subst hq1 hq2
  refine fm_cnt (z' := (0, 0)) rfl (fm_st (st' := []) rfl ?_)
  refine fm_goto (tgt := 391) hc d_Mo_perform_125 rfl ?_
  exact fm_vret hc hr d_Mo_perform_391 (Nat.le_refl _) (Nat.le_refl _) ⟨rfl, rfl, rfl⟩
theorem rq_1b {l : Launch} {b : Nat} {x : Nat → Nat} {D : va_G} {dA : Nat → ClassId} {gi d y : Nat} {h0 : Int32}  {n : Nat} {M : fm_M} (hn : 629 ≤ n) (hR : fm_RP M) (hg : gi < 98) (hd : M.1 612 gi = nI d) (hd6 : d ≤ 6) (hd5 : d < 6) (hy2 : y < 256) (hy : ¬ y ≤ 127) : Met l y_Mo_perform (Cond.code y_Mo_perform b_Mo_perform 5 none :: fm_T0) ({ frames := 6, cells := 0, slots := 0, locals := 170 }) (fm_Pc fm_lay fm_nf fm_fk fm_cl b x D dA (fm_tys dA) (fm_EX b x) false [.ref 586, .int (nI gi), .int h0, .int (nI 1), .int (nI y)] n M) (fm_Qc fm_lay fm_nf fm_fk fm_cl b x D dA (fun r n' M' => r = none ∧ n' = n ∧ M' = fm_put1 (fm_put2 M 613 (6 * gi + d) (((nI y).toInt8.toInt32).toInt64)) 612 gi (nI (d + 1)))) 0 0 (fm_A b) := by
  refine fm_enter (by decide) (Nat.le_of_ble_eq_true rfl) ?_
  intro p e s m args below meth c9 hc hr hnm hex htg
  refine fm_iload_n hc d_Mo_perform_0 rfl rfl ?_
  refine fm_tableIn (off := 99) (tgt := 100) hc d_Mo_perform_1 (by decide) (by decide) rfl rfl ?_
  refine fm_aload_n hc d_Mo_perform_100 rfl rfl ?_
  refine fm_iload_n hc d_Mo_perform_101 rfl rfl ?_
  refine fm_iload hc d_Mo_perform_102 rfl ?_
  refine fm_bipush (v := nI 127) hc d_Mo_perform_104 rfl ?_
  refine fm_icmp_le (tgt := 119) hc d_Mo_perform_106 rfl (fun g => absurd g (fun q => hy ((nI_leI (a := y) (b := 127) (by omega) (by decide)).mp q))) (fun _ => ?_)
  refine fm_iload hc d_Mo_perform_109 rfl ?_
  refine fm_sipush (v := nI 256) hc d_Mo_perform_111 rfl ?_
  refine fm_isub hc d_Mo_perform_114 ?_
  refine fm_i2l hc d_Mo_perform_115 ?_
  refine fm_top (congrArg Value.long (congrArg Int32.toInt64 (byte_neg hy2 hy))) ?_
  refine fm_goto (tgt := 122) hc d_Mo_perform_116 rfl ?_
  refine fm_callV (av := [.int (nI gi), .long (((nI y).toInt8.toInt32).toInt64)]) (rest := []) (ob := 586) (ci := 11) (r0 := ("AgentNetModel", F_Mo, 51)) (y := y_Mo_push) (bytes := b_Mo_push) hc fm_T0_good (fm_EX_st b x) hex q_1121 q_13 q_1118 q_1120 qs_Mo_push pd_Mo_push (by decide) (by omega) (by decide) (by decide) rfl rfl (rc_push hn hR hg hd (by omega)) ⟨rfl, rfl, Nat.le_of_ble_eq_true rfl, Nat.le_of_ble_eq_true rfl⟩ ⟨Nat.le_of_ble_eq_true rfl, Nat.le_of_ble_eq_true rfl⟩ d_Mo_perform_122 (Nat.le_of_ble_eq_true rfl) (fun r n2 M2 hp => ?_)
  obtain ⟨rfl, hq1, hq2⟩ := hp
  replace hq1 := hq1.symm
  replace hq2 := hq2.symm
  subst hq1 hq2
  refine fm_cnt (z' := (0, 0)) rfl (fm_st (st' := []) rfl ?_)
  refine fm_goto (tgt := 391) hc d_Mo_perform_125 rfl ?_
  exact fm_vret hc hr d_Mo_perform_391 (Nat.le_refl _) (Nat.le_refl _) ⟨rfl, rfl, rfl⟩
theorem rq_2 {l : Launch} {b : Nat} {x : Nat → Nat} {D : va_G} {dA : Nat → ClassId} {gi d y : Nat} {v a h0 : Int32}  {n : Nat} {M : fm_M} (hn : 629 ≤ n) (hR : fm_RP M) (hg : gi < 98) (hd : M.1 612 gi = nI d) (hd6 : d ≤ 6) (hd2 : 2 ≤ d) (hu : M.2.1 613 (6 * gi + (d - 1)) = v.toInt64) (hl : M.2.1 613 (6 * gi + (d - 1 - 1)) = a.toInt64) : Met l y_Mo_perform (Cond.code y_Mo_perform b_Mo_perform 5 none :: fm_T0) ({ frames := 6, cells := 0, slots := 0, locals := 170 }) (fm_Pc fm_lay fm_nf fm_fk fm_cl b x D dA (fm_tys dA) (fm_EX b x) false [.ref 586, .int (nI gi), .int h0, .int (nI 2), .int (nI y)] n M) (fm_Qc fm_lay fm_nf fm_fk fm_cl b x D dA (fun r n' M' => r = none ∧ n' = n ∧ M' = fm_put1 (fm_put2 (fm_put1 (fm_put1 M 612 gi (nI (d - 1))) 612 gi (nI (d - 1 - 1))) 613 (6 * gi + (d - 1 - 1)) ((a + v).toInt64)) 612 gi (nI (d - 1 - 1 + 1)))) 0 0 (fm_A b) := by
  refine fm_enter (by decide) (Nat.le_of_ble_eq_true rfl) ?_
  intro p e s m args below meth c9 hc hr hnm hex htg
  refine fm_iload_n hc d_Mo_perform_0 rfl rfl ?_
  refine fm_tableIn (off := 127) (tgt := 128) hc d_Mo_perform_1 (by decide) (by decide) rfl rfl ?_
  refine fm_aload_n hc d_Mo_perform_128 rfl rfl ?_
  refine fm_iload_n hc d_Mo_perform_129 rfl rfl ?_
  refine fm_iload_n hc d_Mo_perform_130 rfl rfl ?_
  refine fm_callV (av := [.int (nI gi), .int (nI 2)]) (rest := []) (ob := 586) (ci := 11) (r0 := ("AgentNetModel", F_Mo, 51)) (y := y_Mo_compute) (bytes := b_Mo_compute) hc fm_T0_good (fm_EX_st b x) hex q_1125 q_13 q_1122 q_1124 qs_Mo_compute pd_Mo_compute (by decide) (by omega) (by decide) (by decide) rfl rfl (rc_comp_2 hn hR hg hd hd6 hd2 hu hl) ⟨rfl, rfl, Nat.le_of_ble_eq_true rfl, Nat.le_of_ble_eq_true rfl⟩ ⟨Nat.le_of_ble_eq_true rfl, Nat.le_of_ble_eq_true rfl⟩ d_Mo_perform_131 (Nat.le_of_ble_eq_true rfl) (fun r n2 M2 hp => ?_)
  obtain ⟨rfl, hq1, hq2⟩ := hp
  replace hq1 := hq1.symm
  replace hq2 := hq2.symm
  subst hq1 hq2
  refine fm_cnt (z' := (0, 0)) rfl (fm_st (st' := []) rfl ?_)
  refine fm_goto (tgt := 391) hc d_Mo_perform_134 rfl ?_
  exact fm_vret hc hr d_Mo_perform_391 (Nat.le_refl _) (Nat.le_refl _) ⟨rfl, rfl, rfl⟩
theorem rq_3 {l : Launch} {b : Nat} {x : Nat → Nat} {D : va_G} {dA : Nat → ClassId} {gi d y : Nat} {v a h0 : Int32}  {n : Nat} {M : fm_M} (hn : 629 ≤ n) (hR : fm_RP M) (hg : gi < 98) (hd : M.1 612 gi = nI d) (hd6 : d ≤ 6) (hd2 : 2 ≤ d) (hu : M.2.1 613 (6 * gi + (d - 1)) = v.toInt64) (hl : M.2.1 613 (6 * gi + (d - 1 - 1)) = a.toInt64) : Met l y_Mo_perform (Cond.code y_Mo_perform b_Mo_perform 5 none :: fm_T0) ({ frames := 6, cells := 0, slots := 0, locals := 170 }) (fm_Pc fm_lay fm_nf fm_fk fm_cl b x D dA (fm_tys dA) (fm_EX b x) false [.ref 586, .int (nI gi), .int h0, .int (nI 3), .int (nI y)] n M) (fm_Qc fm_lay fm_nf fm_fk fm_cl b x D dA (fun r n' M' => r = none ∧ n' = n ∧ M' = fm_put1 (fm_put2 (fm_put1 (fm_put1 M 612 gi (nI (d - 1))) 612 gi (nI (d - 1 - 1))) 613 (6 * gi + (d - 1 - 1)) ((a - v).toInt64)) 612 gi (nI (d - 1 - 1 + 1)))) 0 0 (fm_A b) := by
  refine fm_enter (by decide) (Nat.le_of_ble_eq_true rfl) ?_
  intro p e s m args below meth c9 hc hr hnm hex htg
  refine fm_iload_n hc d_Mo_perform_0 rfl rfl ?_
  refine fm_tableIn (off := 127) (tgt := 128) hc d_Mo_perform_1 (by decide) (by decide) rfl rfl ?_
  refine fm_aload_n hc d_Mo_perform_128 rfl rfl ?_
  refine fm_iload_n hc d_Mo_perform_129 rfl rfl ?_
  refine fm_iload_n hc d_Mo_perform_130 rfl rfl ?_
  refine fm_callV (av := [.int (nI gi), .int (nI 3)]) (rest := []) (ob := 586) (ci := 11) (r0 := ("AgentNetModel", F_Mo, 51)) (y := y_Mo_compute) (bytes := b_Mo_compute) hc fm_T0_good (fm_EX_st b x) hex q_1125 q_13 q_1122 q_1124 qs_Mo_compute pd_Mo_compute (by decide) (by omega) (by decide) (by decide) rfl rfl (rc_comp_3 hn hR hg hd hd6 hd2 hu hl) ⟨rfl, rfl, Nat.le_of_ble_eq_true rfl, Nat.le_of_ble_eq_true rfl⟩ ⟨Nat.le_of_ble_eq_true rfl, Nat.le_of_ble_eq_true rfl⟩ d_Mo_perform_131 (Nat.le_of_ble_eq_true rfl) (fun r n2 M2 hp => ?_)
  obtain ⟨rfl, hq1, hq2⟩ := hp
  replace hq1 := hq1.symm
  replace hq2 := hq2.symm
  subst hq1 hq2
  refine fm_cnt (z' := (0, 0)) rfl (fm_st (st' := []) rfl ?_)
  refine fm_goto (tgt := 391) hc d_Mo_perform_134 rfl ?_
  exact fm_vret hc hr d_Mo_perform_391 (Nat.le_refl _) (Nat.le_refl _) ⟨rfl, rfl, rfl⟩
theorem rq_4 {l : Launch} {b : Nat} {x : Nat → Nat} {D : va_G} {dA : Nat → ClassId} {gi d y : Nat} {v a h0 : Int32}  {n : Nat} {M : fm_M} (hn : 629 ≤ n) (hR : fm_RP M) (hg : gi < 98) (hd : M.1 612 gi = nI d) (hd6 : d ≤ 6) (hd2 : 2 ≤ d) (hu : M.2.1 613 (6 * gi + (d - 1)) = v.toInt64) (hl : M.2.1 613 (6 * gi + (d - 1 - 1)) = a.toInt64) : Met l y_Mo_perform (Cond.code y_Mo_perform b_Mo_perform 5 none :: fm_T0) ({ frames := 6, cells := 0, slots := 0, locals := 170 }) (fm_Pc fm_lay fm_nf fm_fk fm_cl b x D dA (fm_tys dA) (fm_EX b x) false [.ref 586, .int (nI gi), .int h0, .int (nI 4), .int (nI y)] n M) (fm_Qc fm_lay fm_nf fm_fk fm_cl b x D dA (fun r n' M' => r = none ∧ n' = n ∧ M' = fm_put1 (fm_put2 (fm_put1 (fm_put1 M 612 gi (nI (d - 1))) 612 gi (nI (d - 1 - 1))) 613 (6 * gi + (d - 1 - 1)) ((a * v).toInt64)) 612 gi (nI (d - 1 - 1 + 1)))) 0 0 (fm_A b) := by
  refine fm_enter (by decide) (Nat.le_of_ble_eq_true rfl) ?_
  intro p e s m args below meth c9 hc hr hnm hex htg
  refine fm_iload_n hc d_Mo_perform_0 rfl rfl ?_
  refine fm_tableIn (off := 127) (tgt := 128) hc d_Mo_perform_1 (by decide) (by decide) rfl rfl ?_
  refine fm_aload_n hc d_Mo_perform_128 rfl rfl ?_
  refine fm_iload_n hc d_Mo_perform_129 rfl rfl ?_
  refine fm_iload_n hc d_Mo_perform_130 rfl rfl ?_
  refine fm_callV (av := [.int (nI gi), .int (nI 4)]) (rest := []) (ob := 586) (ci := 11) (r0 := ("AgentNetModel", F_Mo, 51)) (y := y_Mo_compute) (bytes := b_Mo_compute) hc fm_T0_good (fm_EX_st b x) hex q_1125 q_13 q_1122 q_1124 qs_Mo_compute pd_Mo_compute (by decide) (by omega) (by decide) (by decide) rfl rfl (rc_comp_4 hn hR hg hd hd6 hd2 hu hl) ⟨rfl, rfl, Nat.le_of_ble_eq_true rfl, Nat.le_of_ble_eq_true rfl⟩ ⟨Nat.le_of_ble_eq_true rfl, Nat.le_of_ble_eq_true rfl⟩ d_Mo_perform_131 (Nat.le_of_ble_eq_true rfl) (fun r n2 M2 hp => ?_)
  obtain ⟨rfl, hq1, hq2⟩ := hp
  replace hq1 := hq1.symm
  replace hq2 := hq2.symm
  subst hq1 hq2
  refine fm_cnt (z' := (0, 0)) rfl (fm_st (st' := []) rfl ?_)
  refine fm_goto (tgt := 391) hc d_Mo_perform_134 rfl ?_
  exact fm_vret hc hr d_Mo_perform_391 (Nat.le_refl _) (Nat.le_refl _) ⟨rfl, rfl, rfl⟩
theorem rq_5 {l : Launch} {b : Nat} {x : Nat → Nat} {D : va_G} {dA : Nat → ClassId} {gi d y : Nat} {h0 : Int32}  {n : Nat} {M : fm_M} (hn : 629 ≤ n) (hR : fm_RP M) (hg : gi < 98) (hd : M.1 612 gi = nI d) (hd6 : d ≤ 6) (hd5 : d < 6) (hy : y < d) : Met l y_Mo_perform (Cond.code y_Mo_perform b_Mo_perform 5 none :: fm_T0) ({ frames := 6, cells := 0, slots := 0, locals := 170 }) (fm_Pc fm_lay fm_nf fm_fk fm_cl b x D dA (fm_tys dA) (fm_EX b x) false [.ref 586, .int (nI gi), .int h0, .int (nI 5), .int (nI y)] n M) (fm_Qc fm_lay fm_nf fm_fk fm_cl b x D dA (fun r n' M' => r = none ∧ n' = n ∧ M' = fm_put1 (fm_put2 M 613 (6 * gi + d) (M.2.1 613 (6 * gi + d - 1 - y))) 612 gi (nI (d + 1)))) 0 0 (fm_A b) := by
  refine fm_enter (by decide) (Nat.le_of_ble_eq_true rfl) ?_
  intro p e s m args below meth c9 hc hr hnm hex htg
  refine fm_iload_n hc d_Mo_perform_0 rfl rfl ?_
  refine fm_tableIn (off := 136) (tgt := 137) hc d_Mo_perform_1 (by decide) (by decide) rfl rfl ?_
  refine fm_aload_n hc d_Mo_perform_137 rfl rfl ?_
  refine fm_iload_n hc d_Mo_perform_138 rfl rfl ?_
  refine fm_aload_n hc d_Mo_perform_139 rfl rfl ?_
  refine fm_iload_n hc d_Mo_perform_140 rfl rfl ?_
  refine fm_iload hc d_Mo_perform_141 rfl ?_
  refine fm_callV (av := [.int (nI gi), .int (nI y)]) (rest := [.int (nI gi), .ref 586]) (ob := 586) (ci := 11) (r0 := ("AgentNetModel", F_Mo, 51)) (y := y_Mo_top) (bytes := b_Mo_top) hc fm_T0_good (fm_EX_st b x) hex q_1097 q_13 q_1094 q_1096 qs_Mo_top pd_Mo_top (by decide) (by omega) (by decide) (by decide) rfl rfl (rc_top hn hR hg hd hd6 hy) ⟨rfl, rfl, Nat.le_of_ble_eq_true rfl, Nat.le_of_ble_eq_true rfl⟩ ⟨Nat.le_of_ble_eq_true rfl, Nat.le_of_ble_eq_true rfl⟩ d_Mo_perform_143 (Nat.le_of_ble_eq_true rfl) (fun r n2 M2 hp => ?_)
  obtain ⟨rfl, hq1, hq2⟩ := hp
  replace hq1 := hq1.symm
  replace hq2 := hq2.symm
  subst hq1 hq2
  refine fm_cnt (z' := (0, 0)) rfl (fm_st (st' := [.long (M.2.1 613 (6 * gi + d - 1 - y)), .int (nI gi), .ref 586]) rfl ?_)
  refine fm_callV (av := [.int (nI gi), .long (M.2.1 613 (6 * gi + d - 1 - y))]) (rest := []) (ob := 586) (ci := 11) (r0 := ("AgentNetModel", F_Mo, 51)) (y := y_Mo_push) (bytes := b_Mo_push) hc fm_T0_good (fm_EX_st b x) hex q_1121 q_13 q_1118 q_1120 qs_Mo_push pd_Mo_push (by decide) (by omega) (by decide) (by decide) rfl rfl (rc_push hn hR hg hd (by omega)) ⟨rfl, rfl, Nat.le_of_ble_eq_true rfl, Nat.le_of_ble_eq_true rfl⟩ ⟨Nat.le_of_ble_eq_true rfl, Nat.le_of_ble_eq_true rfl⟩ d_Mo_perform_146 (Nat.le_of_ble_eq_true rfl) (fun r n2 M2 hp => ?_)
  obtain ⟨rfl, hq1, hq2⟩ := hp
  replace hq1 := hq1.symm
  replace hq2 := hq2.symm
  subst hq1 hq2
  refine fm_cnt (z' := (0, 0)) rfl (fm_st (st' := []) rfl ?_)
  refine fm_goto (tgt := 391) hc d_Mo_perform_149 rfl ?_
  exact fm_vret hc hr d_Mo_perform_391 (Nat.le_refl _) (Nat.le_refl _) ⟨rfl, rfl, rfl⟩
theorem rq_6 {l : Launch} {b : Nat} {x : Nat → Nat} {D : va_G} {dA : Nat → ClassId} {gi d y : Nat} {h0 : Int32}  {n : Nat} {M : fm_M} (hn : 629 ≤ n) (hR : fm_RP M) (hg : gi < 98) (hd : M.1 612 gi = nI d) (hd6 : d ≤ 6) (hd1 : 1 ≤ d) : Met l y_Mo_perform (Cond.code y_Mo_perform b_Mo_perform 5 none :: fm_T0) ({ frames := 6, cells := 0, slots := 0, locals := 170 }) (fm_Pc fm_lay fm_nf fm_fk fm_cl b x D dA (fm_tys dA) (fm_EX b x) false [.ref 586, .int (nI gi), .int h0, .int (nI 6), .int (nI y)] n M) (fm_Qc fm_lay fm_nf fm_fk fm_cl b x D dA (fun r n' M' => r = none ∧ n' = n ∧ M' = fm_put1 M 612 gi (nI (d - 1)))) 0 0 (fm_A b) := by
  refine fm_enter (by decide) (Nat.le_of_ble_eq_true rfl) ?_
  intro p e s m args below meth c9 hc hr hnm hex htg
  refine fm_iload_n hc d_Mo_perform_0 rfl rfl ?_
  refine fm_tableIn (off := 151) (tgt := 152) hc d_Mo_perform_1 (by decide) (by decide) rfl rfl ?_
  refine fm_aload_n hc d_Mo_perform_152 rfl rfl ?_
  refine fm_getR (k := 27) (q := 612) hc K_Mo d_Mo_perform_153 q_912 rfl (by decide) (by omega) (by decide) (by decide) (by decide) rfl (rp_size hR) ?_
  refine fm_iload_n hc d_Mo_perform_156 rfl rfl ?_
  refine fm_dup2_11 hc d_Mo_perform_157 rfl rfl ?_
  refine fm_iald (j := gi) (len := 98) hc 0 d_Mo_perform_158 (by decide) (by omega) (by decide) rfl (by omega) (by decide) ?_
  refine fm_top (congrArg Value.int hd) ?_
  refine fm_iconst (v := nI 1) hc d_Mo_perform_159 rfl ?_
  refine fm_isub hc d_Mo_perform_160 ?_
  refine fm_top (congrArg Value.int (pk_sub (a := d) (b := 1) (by omega))) ?_
  refine fm_iast (j := gi) (len := 98) (v := nI (d - 1)) hc 0 d_Mo_perform_161 (by decide) (by omega) (by decide) rfl (by omega) (by decide) ?_
  refine fm_goto (tgt := 391) hc d_Mo_perform_162 rfl ?_
  exact fm_vret hc hr d_Mo_perform_391 (Nat.le_refl _) (Nat.le_refl _) ⟨rfl, rfl, rfl⟩
theorem rq_7m {l : Launch} {b : Nat} {x : Nat → Nat} {D : va_G} {dA : Nat → ClassId} {gi he d y : Nat}   {n : Nat} {M : fm_M} (hn : 629 ≤ n) (hR : fm_RP M) (hg : gi < 98) (hd : M.1 612 gi = nI d) (hd6 : d ≤ 6) (hd5 : d < 6) (hh : he < 4) (hy : y < 8) : Met l y_Mo_perform (Cond.code y_Mo_perform b_Mo_perform 5 none :: fm_T0) ({ frames := 6, cells := 0, slots := 0, locals := 170 }) (fm_Pc fm_lay fm_nf fm_fk fm_cl b x D dA (fm_tys dA) (fm_EX b x) false [.ref 586, .int (nI gi), .int (nI he), .int (nI 7), .int (nI y)] n M) (fm_Qc fm_lay fm_nf fm_fk fm_cl b x D dA (fun r n' M' => r = none ∧ n' = n ∧ M' = fm_put1 (fm_put2 M 613 (6 * gi + d) ((M.1 589 (8 * he + y)).toInt64)) 612 gi (nI (d + 1)))) 0 0 (fm_A b) := by
  refine fm_enter (by decide) (Nat.le_of_ble_eq_true rfl) ?_
  intro p e s m args below meth c9 hc hr hnm hex htg
  refine fm_iload_n hc d_Mo_perform_0 rfl rfl ?_
  refine fm_tableIn (off := 164) (tgt := 165) hc d_Mo_perform_1 (by decide) (by decide) rfl rfl ?_
  refine fm_aload_n hc d_Mo_perform_165 rfl rfl ?_
  refine fm_iload_n hc d_Mo_perform_166 rfl rfl ?_
  refine fm_aload_n hc d_Mo_perform_167 rfl rfl ?_
  refine fm_getR (k := 3) (q := 589) hc K_Mo d_Mo_perform_168 q_888 rfl (by decide) (by omega) (by decide) (by decide) (by decide) rfl (rp_tables hR) ?_
  refine fm_bipush (v := nI 8) hc d_Mo_perform_171 rfl ?_
  refine fm_iload_n hc d_Mo_perform_173 rfl rfl ?_
  refine fm_if_ge (tgt := 184) hc d_Mo_perform_174 rfl (fun _ => ?_) (fun g => absurd (nI_nonneg (by omega)) g)
  refine fm_iload_n hc d_Mo_perform_184 rfl rfl ?_
  refine fm_imul hc d_Mo_perform_185 ?_
  refine fm_top (congrArg Value.int (pk_mul 8 he)) ?_
  refine fm_iload hc d_Mo_perform_186 rfl ?_
  refine fm_iadd hc d_Mo_perform_188 ?_
  refine fm_top (congrArg Value.int (nI_add (8 * he) y)) ?_
  refine fm_iald (j := (8 * he) + y) (len := 32) hc 0 d_Mo_perform_189 (by decide) (by omega) (by decide) rfl (by omega) (by decide) ?_
  refine fm_i2l hc d_Mo_perform_190 ?_
  refine fm_callV (av := [.int (nI gi), .long ((M.1 589 ((8 * he) + y)).toInt64)]) (rest := []) (ob := 586) (ci := 11) (r0 := ("AgentNetModel", F_Mo, 51)) (y := y_Mo_push) (bytes := b_Mo_push) hc fm_T0_good (fm_EX_st b x) hex q_1121 q_13 q_1118 q_1120 qs_Mo_push pd_Mo_push (by decide) (by omega) (by decide) (by decide) rfl rfl (rc_push hn hR hg hd (by omega)) ⟨rfl, rfl, Nat.le_of_ble_eq_true rfl, Nat.le_of_ble_eq_true rfl⟩ ⟨Nat.le_of_ble_eq_true rfl, Nat.le_of_ble_eq_true rfl⟩ d_Mo_perform_191 (Nat.le_of_ble_eq_true rfl) (fun r n2 M2 hp => ?_)
  obtain ⟨rfl, hq1, hq2⟩ := hp
  replace hq1 := hq1.symm
  replace hq2 := hq2.symm
  subst hq1 hq2
  refine fm_cnt (z' := (0, 0)) rfl (fm_st (st' := []) rfl ?_)
  refine fm_goto (tgt := 391) hc d_Mo_perform_194 rfl ?_
  exact fm_vret hc hr d_Mo_perform_391 (Nat.le_refl _) (Nat.le_refl _) ⟨rfl, rfl, rfl⟩
theorem rq_7f {l : Launch} {b : Nat} {x : Nat → Nat} {D : va_G} {dA : Nat → ClassId} {gi fh d y : Nat}   {n : Nat} {M : fm_M} (hn : 629 ≤ n) (hR : fm_RP M) (hg : gi < 98) (hd : M.1 612 gi = nI d) (hd6 : d ≤ 6) (hd5 : d < 6) (hfh : M.1 586 46 = nI fh) (hh : fh < 4) (hy : y < 8) : Met l y_Mo_perform (Cond.code y_Mo_perform b_Mo_perform 5 none :: fm_T0) ({ frames := 6, cells := 0, slots := 0, locals := 170 }) (fm_Pc fm_lay fm_nf fm_fk fm_cl b x D dA (fm_tys dA) (fm_EX b x) false [.ref 586, .int (nI gi), .int (-1), .int (nI 7), .int (nI y)] n M) (fm_Qc fm_lay fm_nf fm_fk fm_cl b x D dA (fun r n' M' => r = none ∧ n' = n ∧ M' = fm_put1 (fm_put2 M 613 (6 * gi + d) ((M.1 589 (8 * fh + y)).toInt64)) 612 gi (nI (d + 1)))) 0 0 (fm_A b) := by
  refine fm_enter (by decide) (Nat.le_of_ble_eq_true rfl) ?_
  intro p e s m args below meth c9 hc hr hnm hex htg
  refine fm_iload_n hc d_Mo_perform_0 rfl rfl ?_
  refine fm_tableIn (off := 164) (tgt := 165) hc d_Mo_perform_1 (by decide) (by decide) rfl rfl ?_
  refine fm_aload_n hc d_Mo_perform_165 rfl rfl ?_
  refine fm_iload_n hc d_Mo_perform_166 rfl rfl ?_
  refine fm_aload_n hc d_Mo_perform_167 rfl rfl ?_
  refine fm_getR (k := 3) (q := 589) hc K_Mo d_Mo_perform_168 q_888 rfl (by decide) (by omega) (by decide) (by decide) (by decide) rfl (rp_tables hR) ?_
  refine fm_bipush (v := nI 8) hc d_Mo_perform_171 rfl ?_
  refine fm_iload_n hc d_Mo_perform_173 rfl rfl ?_
  refine fm_if_ge (tgt := 184) hc d_Mo_perform_174 rfl (fun g => absurd g (by decide)) (fun _ => ?_)
  refine fm_aload_n hc d_Mo_perform_177 rfl rfl ?_
  refine fm_getI (k := 46) hc K_Mo d_Mo_perform_178 q_931 rfl (by decide) (by omega) (by decide) (by decide) (by decide) rfl ?_
  refine fm_top (congrArg Value.int hfh) ?_
  refine fm_goto (tgt := 185) hc d_Mo_perform_181 rfl ?_
  refine fm_imul hc d_Mo_perform_185 ?_
  refine fm_top (congrArg Value.int (pk_mul 8 fh)) ?_
  refine fm_iload hc d_Mo_perform_186 rfl ?_
  refine fm_iadd hc d_Mo_perform_188 ?_
  refine fm_top (congrArg Value.int (nI_add (8 * fh) y)) ?_
  refine fm_iald (j := (8 * fh) + y) (len := 32) hc 0 d_Mo_perform_189 (by decide) (by omega) (by decide) rfl (by omega) (by decide) ?_
  refine fm_i2l hc d_Mo_perform_190 ?_
  refine fm_callV (av := [.int (nI gi), .long ((M.1 589 ((8 * fh) + y)).toInt64)]) (rest := []) (ob := 586) (ci := 11) (r0 := ("AgentNetModel", F_Mo, 51)) (y := y_Mo_push) (bytes := b_Mo_push) hc fm_T0_good (fm_EX_st b x) hex q_1121 q_13 q_1118 q_1120 qs_Mo_push pd_Mo_push (by decide) (by omega) (by decide) (by decide) rfl rfl (rc_push hn hR hg hd (by omega)) ⟨rfl, rfl, Nat.le_of_ble_eq_true rfl, Nat.le_of_ble_eq_true rfl⟩ ⟨Nat.le_of_ble_eq_true rfl, Nat.le_of_ble_eq_true rfl⟩ d_Mo_perform_191 (Nat.le_of_ble_eq_true rfl) (fun r n2 M2 hp => ?_)
  obtain ⟨rfl, hq1, hq2⟩ := hp
  replace hq1 := hq1.symm
  replace hq2 := hq2.symm
  subst hq1 hq2
  refine fm_cnt (z' := (0, 0)) rfl (fm_st (st' := []) rfl ?_)
  refine fm_goto (tgt := 391) hc d_Mo_perform_194 rfl ?_
  exact fm_vret hc hr d_Mo_perform_391 (Nat.le_refl _) (Nat.le_refl _) ⟨rfl, rfl, rfl⟩
theorem rq_8m {l : Launch} {b : Nat} {x : Nat → Nat} {D : va_G} {dA : Nat → ClassId} {gi he d y sd : Nat} {v : Int32}  {n : Nat} {M : fm_M} (hn : 629 ≤ n) (hR : fm_RP M) (hg : gi < 98) (hd : M.1 612 gi = nI d) (hd6 : d ≤ 6) (hd1 : 1 ≤ d) (hu : M.2.1 613 (6 * gi + (d - 1)) = v.toInt64) (hg9 : gi < 96) (hh : he < 4) (hs : M.1 609 gi = nI sd) (hs2 : sd < 16) : Met l y_Mo_perform (Cond.code y_Mo_perform b_Mo_perform 5 none :: fm_T0) ({ frames := 6, cells := 0, slots := 0, locals := 170 }) (fm_Pc fm_lay fm_nf fm_fk fm_cl b x D dA (fm_tys dA) (fm_EX b x) false [.ref 586, .int (nI gi), .int (nI he), .int (nI 8), .int (nI y)] n M) (fm_Qc fm_lay fm_nf fm_fk fm_cl b x D dA (fun r n' M' => r = none ∧ n' = n ∧ M' = fm_put1 (fm_put1 (fm_put1 (fm_put1 M 612 gi (nI (d - 1))) 603 (16 * gi + sd) v) 609 gi (nI (sd + 1))) 602 gi (nI (sd + 1)))) 0 0 (fm_A b) := by
  refine fm_enter (by decide) (Nat.le_of_ble_eq_true rfl) ?_
  intro p e s m args below meth c9 hc hr hnm hex htg
  refine fm_iload_n hc d_Mo_perform_0 rfl rfl ?_
  refine fm_tableIn (off := 196) (tgt := 197) hc d_Mo_perform_1 (by decide) (by decide) rfl rfl ?_
  refine fm_aload_n hc d_Mo_perform_197 rfl rfl ?_
  refine fm_iload_n hc d_Mo_perform_198 rfl rfl ?_
  refine fm_iload_n hc d_Mo_perform_199 rfl rfl ?_
  refine fm_aload_n hc d_Mo_perform_200 rfl rfl ?_
  refine fm_iload_n hc d_Mo_perform_201 rfl rfl ?_
  refine fm_callV (av := [.int (nI gi)]) (rest := [.int (nI he), .int (nI gi), .ref 586]) (ob := 586) (ci := 11) (r0 := ("AgentNetModel", F_Mo, 51)) (y := y_Mo_pop) (bytes := b_Mo_pop) hc fm_T0_good (fm_EX_st b x) hex q_1129 q_13 q_1126 q_1128 qs_Mo_pop pd_Mo_pop (by decide) (by omega) (by decide) (by decide) rfl rfl (rc_pop hn hR hg hd hd6 (by omega)) ⟨rfl, rfl, Nat.le_of_ble_eq_true rfl, Nat.le_of_ble_eq_true rfl⟩ ⟨Nat.le_of_ble_eq_true rfl, Nat.le_of_ble_eq_true rfl⟩ d_Mo_perform_202 (Nat.le_of_ble_eq_true rfl) (fun r n2 M2 hp => ?_)
  obtain ⟨rfl, hq1, hq2⟩ := hp
  replace hq1 := hq1.symm
  replace hq2 := hq2.symm
  subst hq1 hq2
  refine fm_cnt (z' := (0, 0)) rfl (fm_st (st' := [.long (M.2.1 613 (6 * gi + (d - 1))), .int (nI he), .int (nI gi), .ref 586]) rfl ?_)
  refine fm_l2i hc d_Mo_perform_205 ?_
  refine fm_top (congrArg Value.int (show (M.2.1 613 (6 * gi + (d - 1))).toInt32 = v by rw [hu]; exact vx_low v)) ?_
  refine fm_callV (av := [.int (nI gi), .int (nI he), .int v]) (rest := []) (ob := 586) (ci := 11) (r0 := ("AgentNetModel", F_Mo, 51)) (y := y_Mo_speak) (bytes := b_Mo_speak) hc fm_T0_good (fm_EX_st b x) hex q_1133 q_13 q_1130 q_1132 qs_Mo_speak pd_Mo_speak (by decide) (by omega) (by decide) (by decide) rfl rfl (rc_speak_m (M := fm_put1 M 612 gi (nI (d - 1))) hn hR hg9 hh ((p1_other (by decide)).trans hs) hs2) ⟨rfl, rfl, Nat.le_of_ble_eq_true rfl, Nat.le_of_ble_eq_true rfl⟩ ⟨Nat.le_of_ble_eq_true rfl, Nat.le_of_ble_eq_true rfl⟩ d_Mo_perform_206 (Nat.le_of_ble_eq_true rfl) (fun r n2 M2 hp => ?_)
  obtain ⟨rfl, hq1, hq2⟩ := hp
  replace hq1 := hq1.symm
  replace hq2 := hq2.symm
  subst hq1 hq2
  refine fm_cnt (z' := (0, 0)) rfl (fm_st (st' := []) rfl ?_)
  refine fm_goto (tgt := 391) hc d_Mo_perform_209 rfl ?_
  exact fm_vret hc hr d_Mo_perform_391 (Nat.le_refl _) (Nat.le_refl _) ⟨rfl, rfl, rfl⟩
theorem rq_8f {l : Launch} {b : Nat} {x : Nat → Nat} {D : va_G} {dA : Nat → ClassId} {gi d y sd fc : Nat} {v : Int32}  {n : Nat} {M : fm_M} (hn : 629 ≤ n) (hR : fm_RP M) (hg : gi < 98) (hd : M.1 612 gi = nI d) (hd6 : d ≤ 6) (hd1 : 1 ≤ d) (hu : M.2.1 613 (6 * gi + (d - 1)) = v.toInt64) (hs : M.1 609 gi = nI sd) (hf : M.1 586 48 = nI fc) (hf2 : fc < 16) : Met l y_Mo_perform (Cond.code y_Mo_perform b_Mo_perform 5 none :: fm_T0) ({ frames := 6, cells := 0, slots := 0, locals := 170 }) (fm_Pc fm_lay fm_nf fm_fk fm_cl b x D dA (fm_tys dA) (fm_EX b x) false [.ref 586, .int (nI gi), .int (-1), .int (nI 8), .int (nI y)] n M) (fm_Qc fm_lay fm_nf fm_fk fm_cl b x D dA (fun r n' M' => r = none ∧ n' = n ∧ M' = fm_put1 (fm_put1 (fm_put1 (fm_put1 M 612 gi (nI (d - 1))) 628 fc v) 586 48 (nI (fc + 1))) 609 gi (nI (sd + 1)))) 0 0 (fm_A b) := by
  refine fm_enter (by decide) (Nat.le_of_ble_eq_true rfl) ?_
  intro p e s m args below meth c9 hc hr hnm hex htg
  refine fm_iload_n hc d_Mo_perform_0 rfl rfl ?_
  refine fm_tableIn (off := 196) (tgt := 197) hc d_Mo_perform_1 (by decide) (by decide) rfl rfl ?_
  refine fm_aload_n hc d_Mo_perform_197 rfl rfl ?_
  refine fm_iload_n hc d_Mo_perform_198 rfl rfl ?_
  refine fm_iload_n hc d_Mo_perform_199 rfl rfl ?_
  refine fm_aload_n hc d_Mo_perform_200 rfl rfl ?_
  refine fm_iload_n hc d_Mo_perform_201 rfl rfl ?_
  refine fm_callV (av := [.int (nI gi)]) (rest := [.int (-1), .int (nI gi), .ref 586]) (ob := 586) (ci := 11) (r0 := ("AgentNetModel", F_Mo, 51)) (y := y_Mo_pop) (bytes := b_Mo_pop) hc fm_T0_good (fm_EX_st b x) hex q_1129 q_13 q_1126 q_1128 qs_Mo_pop pd_Mo_pop (by decide) (by omega) (by decide) (by decide) rfl rfl (rc_pop hn hR hg hd hd6 (by omega)) ⟨rfl, rfl, Nat.le_of_ble_eq_true rfl, Nat.le_of_ble_eq_true rfl⟩ ⟨Nat.le_of_ble_eq_true rfl, Nat.le_of_ble_eq_true rfl⟩ d_Mo_perform_202 (Nat.le_of_ble_eq_true rfl) (fun r n2 M2 hp => ?_)
  obtain ⟨rfl, hq1, hq2⟩ := hp
  replace hq1 := hq1.symm
  replace hq2 := hq2.symm
  subst hq1 hq2
  refine fm_cnt (z' := (0, 0)) rfl (fm_st (st' := [.long (M.2.1 613 (6 * gi + (d - 1))), .int (-1), .int (nI gi), .ref 586]) rfl ?_)
  refine fm_l2i hc d_Mo_perform_205 ?_
  refine fm_top (congrArg Value.int (show (M.2.1 613 (6 * gi + (d - 1))).toInt32 = v by rw [hu]; exact vx_low v)) ?_
  refine fm_callV (av := [.int (nI gi), .int (-1), .int v]) (rest := []) (ob := 586) (ci := 11) (r0 := ("AgentNetModel", F_Mo, 51)) (y := y_Mo_speak) (bytes := b_Mo_speak) hc fm_T0_good (fm_EX_st b x) hex q_1133 q_13 q_1130 q_1132 qs_Mo_speak pd_Mo_speak (by decide) (by omega) (by decide) (by decide) rfl rfl (rc_speak_f (M := fm_put1 M 612 gi (nI (d - 1))) hn hR hg ((p1_other (by decide)).trans hs) ((p1_other (by decide)).trans hf) hf2) ⟨rfl, rfl, Nat.le_of_ble_eq_true rfl, Nat.le_of_ble_eq_true rfl⟩ ⟨Nat.le_of_ble_eq_true rfl, Nat.le_of_ble_eq_true rfl⟩ d_Mo_perform_206 (Nat.le_of_ble_eq_true rfl) (fun r n2 M2 hp => ?_)
  obtain ⟨rfl, hq1, hq2⟩ := hp
  replace hq1 := hq1.symm
  replace hq2 := hq2.symm
  subst hq1 hq2
  refine fm_cnt (z' := (0, 0)) rfl (fm_st (st' := []) rfl ?_)
  refine fm_goto (tgt := 391) hc d_Mo_perform_209 rfl ?_
  exact fm_vret hc hr d_Mo_perform_391 (Nat.le_refl _) (Nat.le_refl _) ⟨rfl, rfl, rfl⟩
theorem rq_9s {l : Launch} {b : Nat} {x : Nat → Nat} {D : va_G} {dA : Nat → ClassId} {gi he d y : Nat} {v : Int32}  {n : Nat} {M : fm_M} (hn : 629 ≤ n) (hR : fm_RP M) (hg : gi < 98) (hd : M.1 612 gi = nI d) (hd6 : d ≤ 6) (hd1 : 1 ≤ d) (hu : M.2.1 613 (6 * gi + (d - 1)) = v.toInt64) (hg9 : gi < 96) (hh : he < 4) (h1 : v = nI he) : Met l y_Mo_perform (Cond.code y_Mo_perform b_Mo_perform 5 none :: fm_T0) ({ frames := 6, cells := 0, slots := 0, locals := 170 }) (fm_Pc fm_lay fm_nf fm_fk fm_cl b x D dA (fm_tys dA) (fm_EX b x) false [.ref 586, .int (nI gi), .int (nI he), .int (nI 9), .int (nI y)] n M) (fm_Qc fm_lay fm_nf fm_fk fm_cl b x D dA (fun r n' M' => r = none ∧ n' = n ∧ M' = fm_put1 M 612 gi (nI (d - 1)))) 0 0 (fm_A b) := by
  refine fm_enter (by decide) (Nat.le_of_ble_eq_true rfl) ?_
  intro p e s m args below meth c9 hc hr hnm hex htg
  refine fm_iload_n hc d_Mo_perform_0 rfl rfl ?_
  refine fm_tableIn (off := 211) (tgt := 212) hc d_Mo_perform_1 (by decide) (by decide) rfl rfl ?_
  refine fm_aload_n hc d_Mo_perform_212 rfl rfl ?_
  refine fm_iload_n hc d_Mo_perform_213 rfl rfl ?_
  refine fm_iload_n hc d_Mo_perform_214 rfl rfl ?_
  refine fm_aload_n hc d_Mo_perform_215 rfl rfl ?_
  refine fm_iload_n hc d_Mo_perform_216 rfl rfl ?_
  refine fm_callV (av := [.int (nI gi)]) (rest := [.int (nI he), .int (nI gi), .ref 586]) (ob := 586) (ci := 11) (r0 := ("AgentNetModel", F_Mo, 51)) (y := y_Mo_pop) (bytes := b_Mo_pop) hc fm_T0_good (fm_EX_st b x) hex q_1129 q_13 q_1126 q_1128 qs_Mo_pop pd_Mo_pop (by decide) (by omega) (by decide) (by decide) rfl rfl (rc_pop hn hR hg hd hd6 (by omega)) ⟨rfl, rfl, Nat.le_of_ble_eq_true rfl, Nat.le_of_ble_eq_true rfl⟩ ⟨Nat.le_of_ble_eq_true rfl, Nat.le_of_ble_eq_true rfl⟩ d_Mo_perform_217 (Nat.le_of_ble_eq_true rfl) (fun r n2 M2 hp => ?_)
  obtain ⟨rfl, hq1, hq2⟩ := hp
  replace hq1 := hq1.symm
  replace hq2 := hq2.symm
  subst hq1 hq2
  refine fm_cnt (z' := (0, 0)) rfl (fm_st (st' := [.long (M.2.1 613 (6 * gi + (d - 1))), .int (nI he), .int (nI gi), .ref 586]) rfl ?_)
  refine fm_l2i hc d_Mo_perform_220 ?_
  refine fm_top (congrArg Value.int (show (M.2.1 613 (6 * gi + (d - 1))).toInt32 = v by rw [hu]; exact vx_low v)) ?_
  refine fm_callV (av := [.int (nI gi), .int (nI he), .int v]) (rest := []) (ob := 586) (ci := 11) (r0 := ("AgentNetModel", F_Mo, 51)) (y := y_Mo_travel) (bytes := b_Mo_travel) hc fm_T0_good (fm_EX_st b x) hex q_1137 q_13 q_1134 q_1136 qs_Mo_travel pd_Mo_travel (by decide) (by omega) (by decide) (by decide) rfl rfl (rc_travel_s (M := fm_put1 M 612 gi (nI (d - 1))) hn hR hg9 hh h1) ⟨rfl, rfl, Nat.le_of_ble_eq_true rfl, Nat.le_of_ble_eq_true rfl⟩ ⟨Nat.le_of_ble_eq_true rfl, Nat.le_of_ble_eq_true rfl⟩ d_Mo_perform_221 (Nat.le_of_ble_eq_true rfl) (fun r n2 M2 hp => ?_)
  obtain ⟨rfl, hq1, hq2⟩ := hp
  replace hq1 := hq1.symm
  replace hq2 := hq2.symm
  subst hq1 hq2
  refine fm_cnt (z' := (0, 0)) rfl (fm_st (st' := []) rfl ?_)
  refine fm_goto (tgt := 391) hc d_Mo_perform_224 rfl ?_
  exact fm_vret hc hr d_Mo_perform_391 (Nat.le_refl _) (Nat.le_refl _) ⟨rfl, rfl, rfl⟩
theorem rq_9m {l : Launch} {b : Nat} {x : Nat → Nat} {D : va_G} {dA : Nat → ClassId} {gi he d y hp : Nat} {v : Int32}  {n : Nat} {M : fm_M} (hn : 629 ≤ n) (hR : fm_RP M) (hg : gi < 98) (hd : M.1 612 gi = nI d) (hd6 : d ≤ 6) (hd1 : 1 ≤ d) (hu : M.2.1 613 (6 * gi + (d - 1)) = v.toInt64) (hg9 : gi < 96) (hh : he < 4) (hp9 : M.1 608 gi = nI hp) (h1 : ¬ v = nI he) : Met l y_Mo_perform (Cond.code y_Mo_perform b_Mo_perform 5 none :: fm_T0) ({ frames := 6, cells := 0, slots := 0, locals := 170 }) (fm_Pc fm_lay fm_nf fm_fk fm_cl b x D dA (fm_tys dA) (fm_EX b x) false [.ref 586, .int (nI gi), .int (nI he), .int (nI 9), .int (nI y)] n M) (fm_Qc fm_lay fm_nf fm_fk fm_cl b x D dA (fun r n' M' => r = none ∧ n' = n ∧ M' = fm_put1 (fm_put1 (fm_put1 (fm_put1 (fm_put1 M 612 gi (nI (d - 1))) 608 gi (nI (hp + 1))) 597 gi (nI 2)) 598 gi v) 601 gi v)) 0 0 (fm_A b) := by
  refine fm_enter (by decide) (Nat.le_of_ble_eq_true rfl) ?_
  intro p e s m args below meth c9 hc hr hnm hex htg
  refine fm_iload_n hc d_Mo_perform_0 rfl rfl ?_
  refine fm_tableIn (off := 211) (tgt := 212) hc d_Mo_perform_1 (by decide) (by decide) rfl rfl ?_
  refine fm_aload_n hc d_Mo_perform_212 rfl rfl ?_
  refine fm_iload_n hc d_Mo_perform_213 rfl rfl ?_
  refine fm_iload_n hc d_Mo_perform_214 rfl rfl ?_
  refine fm_aload_n hc d_Mo_perform_215 rfl rfl ?_
  refine fm_iload_n hc d_Mo_perform_216 rfl rfl ?_
  refine fm_callV (av := [.int (nI gi)]) (rest := [.int (nI he), .int (nI gi), .ref 586]) (ob := 586) (ci := 11) (r0 := ("AgentNetModel", F_Mo, 51)) (y := y_Mo_pop) (bytes := b_Mo_pop) hc fm_T0_good (fm_EX_st b x) hex q_1129 q_13 q_1126 q_1128 qs_Mo_pop pd_Mo_pop (by decide) (by omega) (by decide) (by decide) rfl rfl (rc_pop hn hR hg hd hd6 (by omega)) ⟨rfl, rfl, Nat.le_of_ble_eq_true rfl, Nat.le_of_ble_eq_true rfl⟩ ⟨Nat.le_of_ble_eq_true rfl, Nat.le_of_ble_eq_true rfl⟩ d_Mo_perform_217 (Nat.le_of_ble_eq_true rfl) (fun r n2 M2 hp => ?_)
  obtain ⟨rfl, hq1, hq2⟩ := hp
  replace hq1 := hq1.symm
  replace hq2 := hq2.symm
  subst hq1 hq2
  refine fm_cnt (z' := (0, 0)) rfl (fm_st (st' := [.long (M.2.1 613 (6 * gi + (d - 1))), .int (nI he), .int (nI gi), .ref 586]) rfl ?_)
  refine fm_l2i hc d_Mo_perform_220 ?_
  refine fm_top (congrArg Value.int (show (M.2.1 613 (6 * gi + (d - 1))).toInt32 = v by rw [hu]; exact vx_low v)) ?_
  refine fm_callV (av := [.int (nI gi), .int (nI he), .int v]) (rest := []) (ob := 586) (ci := 11) (r0 := ("AgentNetModel", F_Mo, 51)) (y := y_Mo_travel) (bytes := b_Mo_travel) hc fm_T0_good (fm_EX_st b x) hex q_1137 q_13 q_1134 q_1136 qs_Mo_travel pd_Mo_travel (by decide) (by omega) (by decide) (by decide) rfl rfl (rc_travel_m (M := fm_put1 M 612 gi (nI (d - 1))) hn hR hg9 hh ((p1_other (by decide)).trans hp9) h1) ⟨rfl, rfl, Nat.le_of_ble_eq_true rfl, Nat.le_of_ble_eq_true rfl⟩ ⟨Nat.le_of_ble_eq_true rfl, Nat.le_of_ble_eq_true rfl⟩ d_Mo_perform_221 (Nat.le_of_ble_eq_true rfl) (fun r n2 M2 hp => ?_)
  obtain ⟨rfl, hq1, hq2⟩ := hp
  replace hq1 := hq1.symm
  replace hq2 := hq2.symm
  subst hq1 hq2
  refine fm_cnt (z' := (0, 0)) rfl (fm_st (st' := []) rfl ?_)
  refine fm_goto (tgt := 391) hc d_Mo_perform_224 rfl ?_
  exact fm_vret hc hr d_Mo_perform_391 (Nat.le_refl _) (Nat.le_refl _) ⟨rfl, rfl, rfl⟩
theorem rq_9f {l : Launch} {b : Nat} {x : Nat → Nat} {D : va_G} {dA : Nat → ClassId} {gi d y : Nat} {v : Int32}  {n : Nat} {M : fm_M} (hn : 629 ≤ n) (hR : fm_RP M) (hg : gi < 98) (hd : M.1 612 gi = nI d) (hd6 : d ≤ 6) (hd1 : 1 ≤ d) (hu : M.2.1 613 (6 * gi + (d - 1)) = v.toInt64) : Met l y_Mo_perform (Cond.code y_Mo_perform b_Mo_perform 5 none :: fm_T0) ({ frames := 6, cells := 0, slots := 0, locals := 170 }) (fm_Pc fm_lay fm_nf fm_fk fm_cl b x D dA (fm_tys dA) (fm_EX b x) false [.ref 586, .int (nI gi), .int (-1), .int (nI 9), .int (nI y)] n M) (fm_Qc fm_lay fm_nf fm_fk fm_cl b x D dA (fun r n' M' => r = none ∧ n' = n ∧ M' = fm_put1 (fm_put1 M 612 gi (nI (d - 1))) 586 46 v)) 0 0 (fm_A b) := by
  refine fm_enter (by decide) (Nat.le_of_ble_eq_true rfl) ?_
  intro p e s m args below meth c9 hc hr hnm hex htg
  refine fm_iload_n hc d_Mo_perform_0 rfl rfl ?_
  refine fm_tableIn (off := 211) (tgt := 212) hc d_Mo_perform_1 (by decide) (by decide) rfl rfl ?_
  refine fm_aload_n hc d_Mo_perform_212 rfl rfl ?_
  refine fm_iload_n hc d_Mo_perform_213 rfl rfl ?_
  refine fm_iload_n hc d_Mo_perform_214 rfl rfl ?_
  refine fm_aload_n hc d_Mo_perform_215 rfl rfl ?_
  refine fm_iload_n hc d_Mo_perform_216 rfl rfl ?_
  refine fm_callV (av := [.int (nI gi)]) (rest := [.int (-1), .int (nI gi), .ref 586]) (ob := 586) (ci := 11) (r0 := ("AgentNetModel", F_Mo, 51)) (y := y_Mo_pop) (bytes := b_Mo_pop) hc fm_T0_good (fm_EX_st b x) hex q_1129 q_13 q_1126 q_1128 qs_Mo_pop pd_Mo_pop (by decide) (by omega) (by decide) (by decide) rfl rfl (rc_pop hn hR hg hd hd6 (by omega)) ⟨rfl, rfl, Nat.le_of_ble_eq_true rfl, Nat.le_of_ble_eq_true rfl⟩ ⟨Nat.le_of_ble_eq_true rfl, Nat.le_of_ble_eq_true rfl⟩ d_Mo_perform_217 (Nat.le_of_ble_eq_true rfl) (fun r n2 M2 hp => ?_)
  obtain ⟨rfl, hq1, hq2⟩ := hp
  replace hq1 := hq1.symm
  replace hq2 := hq2.symm
  subst hq1 hq2
  refine fm_cnt (z' := (0, 0)) rfl (fm_st (st' := [.long (M.2.1 613 (6 * gi + (d - 1))), .int (-1), .int (nI gi), .ref 586]) rfl ?_)
  refine fm_l2i hc d_Mo_perform_220 ?_
  refine fm_top (congrArg Value.int (show (M.2.1 613 (6 * gi + (d - 1))).toInt32 = v by rw [hu]; exact vx_low v)) ?_
  refine fm_callV (av := [.int (nI gi), .int (-1), .int v]) (rest := []) (ob := 586) (ci := 11) (r0 := ("AgentNetModel", F_Mo, 51)) (y := y_Mo_travel) (bytes := b_Mo_travel) hc fm_T0_good (fm_EX_st b x) hex q_1137 q_13 q_1134 q_1136 qs_Mo_travel pd_Mo_travel (by decide) (by omega) (by decide) (by decide) rfl rfl (rc_travel_f (M := fm_put1 M 612 gi (nI (d - 1))) hn hR) ⟨rfl, rfl, Nat.le_of_ble_eq_true rfl, Nat.le_of_ble_eq_true rfl⟩ ⟨Nat.le_of_ble_eq_true rfl, Nat.le_of_ble_eq_true rfl⟩ d_Mo_perform_221 (Nat.le_of_ble_eq_true rfl) (fun r n2 M2 hp => ?_)
  obtain ⟨rfl, hq1, hq2⟩ := hp
  replace hq1 := hq1.symm
  replace hq2 := hq2.symm
  subst hq1 hq2
  refine fm_cnt (z' := (0, 0)) rfl (fm_st (st' := []) rfl ?_)
  refine fm_goto (tgt := 391) hc d_Mo_perform_224 rfl ?_
  exact fm_vret hc hr d_Mo_perform_391 (Nat.le_refl _) (Nat.le_refl _) ⟨rfl, rfl, rfl⟩
theorem rq_10 {l : Launch} {b : Nat} {x : Nat → Nat} {D : va_G} {dA : Nat → ClassId} {gi d y : Nat} {h0 : Int32}  {n : Nat} {M : fm_M} (hn : 629 ≤ n) (hR : fm_RP M) (hg : gi < 98) (hd : M.1 612 gi = nI d) (hd6 : d ≤ 6) : Met l y_Mo_perform (Cond.code y_Mo_perform b_Mo_perform 5 none :: fm_T0) ({ frames := 6, cells := 0, slots := 0, locals := 170 }) (fm_Pc fm_lay fm_nf fm_fk fm_cl b x D dA (fm_tys dA) (fm_EX b x) false [.ref 586, .int (nI gi), .int h0, .int (nI 10), .int (nI y)] n M) (fm_Qc fm_lay fm_nf fm_fk fm_cl b x D dA (fun r n' M' => r = none ∧ n' = n ∧ M' = fm_put1 M 606 gi (nI y))) 0 0 (fm_A b) := by
  refine fm_enter (by decide) (Nat.le_of_ble_eq_true rfl) ?_
  intro p e s m args below meth c9 hc hr hnm hex htg
  refine fm_iload_n hc d_Mo_perform_0 rfl rfl ?_
  refine fm_tableIn (off := 226) (tgt := 227) hc d_Mo_perform_1 (by decide) (by decide) rfl rfl ?_
  refine fm_aload_n hc d_Mo_perform_227 rfl rfl ?_
  refine fm_getR (k := 21) (q := 606) hc K_Mo d_Mo_perform_228 q_906 rfl (by decide) (by omega) (by decide) (by decide) (by decide) rfl (rp_place hR) ?_
  refine fm_iload_n hc d_Mo_perform_231 rfl rfl ?_
  refine fm_iload hc d_Mo_perform_232 rfl ?_
  refine fm_iast (j := gi) (len := 98) (v := nI y) hc 0 d_Mo_perform_234 (by decide) (by omega) (by decide) rfl (by omega) (by decide) ?_
  refine fm_goto (tgt := 391) hc d_Mo_perform_235 rfl ?_
  exact fm_vret hc hr d_Mo_perform_391 (Nat.le_refl _) (Nat.le_refl _) ⟨rfl, rfl, rfl⟩
theorem rq_11z {l : Launch} {b : Nat} {x : Nat → Nat} {D : va_G} {dA : Nat → ClassId} {gi d y : Nat} {v h0 : Int32}  {n : Nat} {M : fm_M} (hn : 629 ≤ n) (hR : fm_RP M) (hg : gi < 98) (hd : M.1 612 gi = nI d) (hd6 : d ≤ 6) (hd1 : 1 ≤ d) (hu : M.2.1 613 (6 * gi + (d - 1)) = v.toInt64) (h1 : v = 0) : Met l y_Mo_perform (Cond.code y_Mo_perform b_Mo_perform 5 none :: fm_T0) ({ frames := 6, cells := 0, slots := 0, locals := 170 }) (fm_Pc fm_lay fm_nf fm_fk fm_cl b x D dA (fm_tys dA) (fm_EX b x) false [.ref 586, .int (nI gi), .int h0, .int (nI 11), .int (nI y)] n M) (fm_Qc fm_lay fm_nf fm_fk fm_cl b x D dA (fun r n' M' => r = none ∧ n' = n ∧ M' = fm_put1 M 612 gi (nI (d - 1)))) 0 0 (fm_A b) := by
  refine fm_enter (by decide) (Nat.le_of_ble_eq_true rfl) ?_
  intro p e s m args below meth c9 hc hr hnm hex htg
  refine fm_iload_n hc d_Mo_perform_0 rfl rfl ?_
  refine fm_tableIn (off := 237) (tgt := 238) hc d_Mo_perform_1 (by decide) (by decide) rfl rfl ?_
  refine fm_aload_n hc d_Mo_perform_238 rfl rfl ?_
  refine fm_getR (k := 21) (q := 606) hc K_Mo d_Mo_perform_239 q_906 rfl (by decide) (by omega) (by decide) (by decide) (by decide) rfl (rp_place hR) ?_
  refine fm_iload_n hc d_Mo_perform_242 rfl rfl ?_
  refine fm_aload_n hc d_Mo_perform_243 rfl rfl ?_
  refine fm_iload_n hc d_Mo_perform_244 rfl rfl ?_
  refine fm_callV (av := [.int (nI gi)]) (rest := [.int (nI gi), .ref 606]) (ob := 586) (ci := 11) (r0 := ("AgentNetModel", F_Mo, 51)) (y := y_Mo_pop) (bytes := b_Mo_pop) hc fm_T0_good (fm_EX_st b x) hex q_1129 q_13 q_1126 q_1128 qs_Mo_pop pd_Mo_pop (by decide) (by omega) (by decide) (by decide) rfl rfl (rc_pop hn hR hg hd hd6 (by omega)) ⟨rfl, rfl, Nat.le_of_ble_eq_true rfl, Nat.le_of_ble_eq_true rfl⟩ ⟨Nat.le_of_ble_eq_true rfl, Nat.le_of_ble_eq_true rfl⟩ d_Mo_perform_245 (Nat.le_of_ble_eq_true rfl) (fun r n2 M2 hp => ?_)
  obtain ⟨rfl, hq1, hq2⟩ := hp
  replace hq1 := hq1.symm
  replace hq2 := hq2.symm
  subst hq1 hq2
  refine fm_cnt (z' := (0, 0)) rfl (fm_st (st' := [.long (M.2.1 613 (6 * gi + (d - 1))), .int (nI gi), .ref 606]) rfl ?_)
  refine fm_l2i hc d_Mo_perform_248 ?_
  refine fm_top (congrArg Value.int (show (M.2.1 613 (6 * gi + (d - 1))).toInt32 = v by rw [hu]; exact vx_low v)) ?_
  refine fm_if_eq (tgt := 257) hc d_Mo_perform_249 rfl (fun _ => ?_) (fun g => absurd h1 g)
  refine fm_aload_n hc d_Mo_perform_257 rfl rfl ?_
  refine fm_getR (k := 21) (q := 606) hc K_Mo d_Mo_perform_258 q_906 rfl (by decide) (by omega) (by decide) (by decide) (by decide) rfl (rp_place hR) ?_
  refine fm_iload_n hc d_Mo_perform_261 rfl rfl ?_
  refine fm_iald (j := gi) (len := 98) hc 0 d_Mo_perform_262 (by decide) (by omega) (by decide) rfl (by omega) (by decide) ?_
  refine fm_iast (j := gi) (len := 98) (v := (fm_put1 M 612 gi (nI (d - 1))).1 606 gi) hc 0 d_Mo_perform_263 (by decide) (by omega) (by decide) rfl (by omega) (by decide) ?_
  refine fm_mem (M' := fm_put1 M 612 gi (nI (d - 1))) rfl (p1_id rfl) ?_
  refine fm_goto (tgt := 391) hc d_Mo_perform_264 rfl ?_
  exact fm_vret hc hr d_Mo_perform_391 (Nat.le_refl _) (Nat.le_refl _) ⟨rfl, rfl, rfl⟩
theorem rq_11 {l : Launch} {b : Nat} {x : Nat → Nat} {D : va_G} {dA : Nat → ClassId} {gi d y : Nat} {v h0 : Int32}  {n : Nat} {M : fm_M} (hn : 629 ≤ n) (hR : fm_RP M) (hg : gi < 98) (hd : M.1 612 gi = nI d) (hd6 : d ≤ 6) (hd1 : 1 ≤ d) (hu : M.2.1 613 (6 * gi + (d - 1)) = v.toInt64) (h1 : ¬ v = 0) : Met l y_Mo_perform (Cond.code y_Mo_perform b_Mo_perform 5 none :: fm_T0) ({ frames := 6, cells := 0, slots := 0, locals := 170 }) (fm_Pc fm_lay fm_nf fm_fk fm_cl b x D dA (fm_tys dA) (fm_EX b x) false [.ref 586, .int (nI gi), .int h0, .int (nI 11), .int (nI y)] n M) (fm_Qc fm_lay fm_nf fm_fk fm_cl b x D dA (fun r n' M' => r = none ∧ n' = n ∧ M' = fm_put1 (fm_put1 M 612 gi (nI (d - 1))) 606 gi (nI y))) 0 0 (fm_A b) := by
  refine fm_enter (by decide) (Nat.le_of_ble_eq_true rfl) ?_
  intro p e s m args below meth c9 hc hr hnm hex htg
  refine fm_iload_n hc d_Mo_perform_0 rfl rfl ?_
  refine fm_tableIn (off := 237) (tgt := 238) hc d_Mo_perform_1 (by decide) (by decide) rfl rfl ?_
  refine fm_aload_n hc d_Mo_perform_238 rfl rfl ?_
  refine fm_getR (k := 21) (q := 606) hc K_Mo d_Mo_perform_239 q_906 rfl (by decide) (by omega) (by decide) (by decide) (by decide) rfl (rp_place hR) ?_
  refine fm_iload_n hc d_Mo_perform_242 rfl rfl ?_
  refine fm_aload_n hc d_Mo_perform_243 rfl rfl ?_
  refine fm_iload_n hc d_Mo_perform_244 rfl rfl ?_
  refine fm_callV (av := [.int (nI gi)]) (rest := [.int (nI gi), .ref 606]) (ob := 586) (ci := 11) (r0 := ("AgentNetModel", F_Mo, 51)) (y := y_Mo_pop) (bytes := b_Mo_pop) hc fm_T0_good (fm_EX_st b x) hex q_1129 q_13 q_1126 q_1128 qs_Mo_pop pd_Mo_pop (by decide) (by omega) (by decide) (by decide) rfl rfl (rc_pop hn hR hg hd hd6 (by omega)) ⟨rfl, rfl, Nat.le_of_ble_eq_true rfl, Nat.le_of_ble_eq_true rfl⟩ ⟨Nat.le_of_ble_eq_true rfl, Nat.le_of_ble_eq_true rfl⟩ d_Mo_perform_245 (Nat.le_of_ble_eq_true rfl) (fun r n2 M2 hp => ?_)
  obtain ⟨rfl, hq1, hq2⟩ := hp
  replace hq1 := hq1.symm
  replace hq2 := hq2.symm
  subst hq1 hq2
  refine fm_cnt (z' := (0, 0)) rfl (fm_st (st' := [.long (M.2.1 613 (6 * gi + (d - 1))), .int (nI gi), .ref 606]) rfl ?_)
  refine fm_l2i hc d_Mo_perform_248 ?_
  refine fm_top (congrArg Value.int (show (M.2.1 613 (6 * gi + (d - 1))).toInt32 = v by rw [hu]; exact vx_low v)) ?_
  refine fm_if_eq (tgt := 257) hc d_Mo_perform_249 rfl (fun g => absurd g h1) (fun _ => ?_)
  refine fm_iload hc d_Mo_perform_252 rfl ?_
  refine fm_goto (tgt := 263) hc d_Mo_perform_254 rfl ?_
  refine fm_iast (j := gi) (len := 98) (v := nI y) hc 0 d_Mo_perform_263 (by decide) (by omega) (by decide) rfl (by omega) (by decide) ?_
  refine fm_goto (tgt := 391) hc d_Mo_perform_264 rfl ?_
  exact fm_vret hc hr d_Mo_perform_391 (Nat.le_refl _) (Nat.le_refl _) ⟨rfl, rfl, rfl⟩
theorem rq_12 {l : Launch} {b : Nat} {x : Nat → Nat} {D : va_G} {dA : Nat → ClassId} {gi d y : Nat} {v h0 : Int32} {PR : fm_M → Prop} {n : Nat} {M : fm_M} (hn : 629 ≤ n) (hR : fm_RP M) (hg : gi < 98) (hd : M.1 612 gi = nI d) (hd6 : d ≤ 6) (hd1 : 1 ≤ d) (hu : M.2.1 613 (6 * gi + (d - 1)) = v.toInt64) (hcl : Met l y_Mo_cloning (Cond.code y_Mo_cloning b_Mo_cloning 6 none :: fm_T0) ({ frames := 2, cells := 0, slots := 0, locals := 60 }) (fm_Pc fm_lay fm_nf fm_fk fm_cl b x D dA (fm_tys dA) (fm_EX b x) false [.ref 586, .int (nI gi), .int h0, .int v] n (fm_put1 M 612 gi (nI (d - 1)))) (fm_Qc fm_lay fm_nf fm_fk fm_cl b x D dA (fun r n' M' => r = none ∧ n' = n ∧ PR M')) 0 0 (fm_A b)) : Met l y_Mo_perform (Cond.code y_Mo_perform b_Mo_perform 5 none :: fm_T0) ({ frames := 6, cells := 0, slots := 0, locals := 170 }) (fm_Pc fm_lay fm_nf fm_fk fm_cl b x D dA (fm_tys dA) (fm_EX b x) false [.ref 586, .int (nI gi), .int h0, .int (nI 12), .int (nI y)] n M) (fm_Qc fm_lay fm_nf fm_fk fm_cl b x D dA (fun r n' M' => r = none ∧ n' = n ∧ PR M')) 0 0 (fm_A b) := by
  refine fm_enter (by decide) (Nat.le_of_ble_eq_true rfl) ?_
  intro p e s m args below meth c9 hc hr hnm hex htg
  refine fm_iload_n hc d_Mo_perform_0 rfl rfl ?_
  refine fm_tableIn (off := 266) (tgt := 267) hc d_Mo_perform_1 (by decide) (by decide) rfl rfl ?_
  refine fm_aload_n hc d_Mo_perform_267 rfl rfl ?_
  refine fm_iload_n hc d_Mo_perform_268 rfl rfl ?_
  refine fm_iload_n hc d_Mo_perform_269 rfl rfl ?_
  refine fm_aload_n hc d_Mo_perform_270 rfl rfl ?_
  refine fm_iload_n hc d_Mo_perform_271 rfl rfl ?_
  refine fm_callV (av := [.int (nI gi)]) (rest := [.int h0, .int (nI gi), .ref 586]) (ob := 586) (ci := 11) (r0 := ("AgentNetModel", F_Mo, 51)) (y := y_Mo_pop) (bytes := b_Mo_pop) hc fm_T0_good (fm_EX_st b x) hex q_1129 q_13 q_1126 q_1128 qs_Mo_pop pd_Mo_pop (by decide) (by omega) (by decide) (by decide) rfl rfl (rc_pop hn hR hg hd hd6 (by omega)) ⟨rfl, rfl, Nat.le_of_ble_eq_true rfl, Nat.le_of_ble_eq_true rfl⟩ ⟨Nat.le_of_ble_eq_true rfl, Nat.le_of_ble_eq_true rfl⟩ d_Mo_perform_272 (Nat.le_of_ble_eq_true rfl) (fun r n2 M2 hp => ?_)
  obtain ⟨rfl, hq1, hq2⟩ := hp
  replace hq1 := hq1.symm
  replace hq2 := hq2.symm
  subst hq1 hq2
  refine fm_cnt (z' := (0, 0)) rfl (fm_st (st' := [.long (M.2.1 613 (6 * gi + (d - 1))), .int h0, .int (nI gi), .ref 586]) rfl ?_)
  refine fm_l2i hc d_Mo_perform_275 ?_
  refine fm_top (congrArg Value.int (show (M.2.1 613 (6 * gi + (d - 1))).toInt32 = v by rw [hu]; exact vx_low v)) ?_
  refine fm_callV (av := [.int (nI gi), .int h0, .int v]) (rest := []) (ob := 586) (ci := 11) (r0 := ("AgentNetModel", F_Mo, 51)) (y := y_Mo_cloning) (bytes := b_Mo_cloning) hc fm_T0_good (fm_EX_st b x) hex q_1141 q_13 q_1138 q_1140 qs_Mo_cloning pd_Mo_cloning (by decide) (by omega) (by decide) (by decide) rfl rfl (hcl) ⟨rfl, rfl, Nat.le_of_ble_eq_true rfl, Nat.le_of_ble_eq_true rfl⟩ ⟨Nat.le_of_ble_eq_true rfl, Nat.le_of_ble_eq_true rfl⟩ d_Mo_perform_276 (Nat.le_of_ble_eq_true rfl) (fun r n2 M2 hp => ?_)
  obtain ⟨rfl, hq1, hpp⟩ := hp
  replace hq1 := hq1.symm
  subst hq1
  refine fm_cnt (z' := (0, 0)) rfl (fm_st (st' := []) rfl ?_)
  refine fm_goto (tgt := 391) hc d_Mo_perform_279 rfl ?_
  exact fm_vret hc hr d_Mo_perform_391 (Nat.le_refl _) (Nat.le_refl _) ⟨rfl, rfl, hpp⟩
theorem rq_13m {l : Launch} {b : Nat} {x : Nat → Nat} {D : va_G} {dA : Nat → ClassId} {gi he d y : Nat} {v : Int32}  {n : Nat} {M : fm_M} (hn : 629 ≤ n) (hR : fm_RP M) (hg : gi < 98) (hd : M.1 612 gi = nI d) (hd6 : d ≤ 6) (hd1 : 1 ≤ d) (hu : M.2.1 613 (6 * gi + (d - 1)) = v.toInt64) (hh : he < 4) : Met l y_Mo_perform (Cond.code y_Mo_perform b_Mo_perform 5 none :: fm_T0) ({ frames := 6, cells := 0, slots := 0, locals := 170 }) (fm_Pc fm_lay fm_nf fm_fk fm_cl b x D dA (fm_tys dA) (fm_EX b x) false [.ref 586, .int (nI gi), .int (nI he), .int (nI 13), .int (nI y)] n M) (fm_Qc fm_lay fm_nf fm_fk fm_cl b x D dA (fun r n' M' => r = none ∧ n' = n ∧ M' = fm_put1 (fm_put1 M 612 gi (nI (d - 1))) 610 gi v)) 0 0 (fm_A b) := by
  refine fm_enter (by decide) (Nat.le_of_ble_eq_true rfl) ?_
  intro p e s m args below meth c9 hc hr hnm hex htg
  refine fm_iload_n hc d_Mo_perform_0 rfl rfl ?_
  refine fm_tableIn (off := 281) (tgt := 282) hc d_Mo_perform_1 (by decide) (by decide) rfl rfl ?_
  refine fm_aload_n hc d_Mo_perform_282 rfl rfl ?_
  refine fm_getR (k := 25) (q := 610) hc K_Mo d_Mo_perform_283 q_910 rfl (by decide) (by omega) (by decide) (by decide) (by decide) rfl (rp_wait hR) ?_
  refine fm_iload_n hc d_Mo_perform_286 rfl rfl ?_
  refine fm_aload_n hc d_Mo_perform_287 rfl rfl ?_
  refine fm_iload_n hc d_Mo_perform_288 rfl rfl ?_
  refine fm_callV (av := [.int (nI gi)]) (rest := [.int (nI gi), .ref 610]) (ob := 586) (ci := 11) (r0 := ("AgentNetModel", F_Mo, 51)) (y := y_Mo_pop) (bytes := b_Mo_pop) hc fm_T0_good (fm_EX_st b x) hex q_1129 q_13 q_1126 q_1128 qs_Mo_pop pd_Mo_pop (by decide) (by omega) (by decide) (by decide) rfl rfl (rc_pop hn hR hg hd hd6 (by omega)) ⟨rfl, rfl, Nat.le_of_ble_eq_true rfl, Nat.le_of_ble_eq_true rfl⟩ ⟨Nat.le_of_ble_eq_true rfl, Nat.le_of_ble_eq_true rfl⟩ d_Mo_perform_289 (Nat.le_of_ble_eq_true rfl) (fun r n2 M2 hp => ?_)
  obtain ⟨rfl, hq1, hq2⟩ := hp
  replace hq1 := hq1.symm
  replace hq2 := hq2.symm
  subst hq1 hq2
  refine fm_cnt (z' := (0, 0)) rfl (fm_st (st' := [.long (M.2.1 613 (6 * gi + (d - 1))), .int (nI gi), .ref 610]) rfl ?_)
  refine fm_l2i hc d_Mo_perform_292 ?_
  refine fm_top (congrArg Value.int (show (M.2.1 613 (6 * gi + (d - 1))).toInt32 = v by rw [hu]; exact vx_low v)) ?_
  refine fm_iast (j := gi) (len := 98) (v := v) hc 0 d_Mo_perform_293 (by decide) (by omega) (by decide) rfl (by omega) (by decide) ?_
  refine fm_aload_n hc d_Mo_perform_294 rfl rfl ?_
  refine fm_getR (k := 25) (q := 610) hc K_Mo d_Mo_perform_295 q_910 rfl (by decide) (by omega) (by decide) (by decide) (by decide) rfl (rp_wait hR) ?_
  refine fm_iload_n hc d_Mo_perform_298 rfl rfl ?_
  refine fm_iload_n hc d_Mo_perform_299 rfl rfl ?_
  refine fm_if_ge (tgt := 307) hc d_Mo_perform_300 rfl (fun _ => ?_) (fun g => absurd (nI_nonneg (by omega)) g)
  refine fm_aload_n hc d_Mo_perform_307 rfl rfl ?_
  refine fm_getR (k := 25) (q := 610) hc K_Mo d_Mo_perform_308 q_910 rfl (by decide) (by omega) (by decide) (by decide) (by decide) rfl (rp_wait hR) ?_
  refine fm_iload_n hc d_Mo_perform_311 rfl rfl ?_
  refine fm_iald (j := gi) (len := 98) hc 0 d_Mo_perform_312 (by decide) (by omega) (by decide) rfl (by omega) (by decide) ?_
  refine fm_iast (j := gi) (len := 98) (v := (fm_put1 (fm_put1 M 612 gi (nI (d - 1))) 610 gi v).1 610 gi) hc 0 d_Mo_perform_313 (by decide) (by omega) (by decide) rfl (by omega) (by decide) ?_
  refine fm_mem (M' := fm_put1 (fm_put1 M 612 gi (nI (d - 1))) 610 gi v) rfl (p1_id rfl) ?_
  refine fm_goto (tgt := 391) hc d_Mo_perform_314 rfl ?_
  exact fm_vret hc hr d_Mo_perform_391 (Nat.le_refl _) (Nat.le_refl _) ⟨rfl, rfl, rfl⟩
theorem rq_13f {l : Launch} {b : Nat} {x : Nat → Nat} {D : va_G} {dA : Nat → ClassId} {gi d y : Nat} {v : Int32}  {n : Nat} {M : fm_M} (hn : 629 ≤ n) (hR : fm_RP M) (hg : gi < 98) (hd : M.1 612 gi = nI d) (hd6 : d ≤ 6) (hd1 : 1 ≤ d) (hu : M.2.1 613 (6 * gi + (d - 1)) = v.toInt64) : Met l y_Mo_perform (Cond.code y_Mo_perform b_Mo_perform 5 none :: fm_T0) ({ frames := 6, cells := 0, slots := 0, locals := 170 }) (fm_Pc fm_lay fm_nf fm_fk fm_cl b x D dA (fm_tys dA) (fm_EX b x) false [.ref 586, .int (nI gi), .int (-1), .int (nI 13), .int (nI y)] n M) (fm_Qc fm_lay fm_nf fm_fk fm_cl b x D dA (fun r n' M' => r = none ∧ n' = n ∧ M' = fm_put1 (fm_put1 (fm_put1 M 612 gi (nI (d - 1))) 610 gi v) 610 gi (nI 0))) 0 0 (fm_A b) := by
  refine fm_enter (by decide) (Nat.le_of_ble_eq_true rfl) ?_
  intro p e s m args below meth c9 hc hr hnm hex htg
  refine fm_iload_n hc d_Mo_perform_0 rfl rfl ?_
  refine fm_tableIn (off := 281) (tgt := 282) hc d_Mo_perform_1 (by decide) (by decide) rfl rfl ?_
  refine fm_aload_n hc d_Mo_perform_282 rfl rfl ?_
  refine fm_getR (k := 25) (q := 610) hc K_Mo d_Mo_perform_283 q_910 rfl (by decide) (by omega) (by decide) (by decide) (by decide) rfl (rp_wait hR) ?_
  refine fm_iload_n hc d_Mo_perform_286 rfl rfl ?_
  refine fm_aload_n hc d_Mo_perform_287 rfl rfl ?_
  refine fm_iload_n hc d_Mo_perform_288 rfl rfl ?_
  refine fm_callV (av := [.int (nI gi)]) (rest := [.int (nI gi), .ref 610]) (ob := 586) (ci := 11) (r0 := ("AgentNetModel", F_Mo, 51)) (y := y_Mo_pop) (bytes := b_Mo_pop) hc fm_T0_good (fm_EX_st b x) hex q_1129 q_13 q_1126 q_1128 qs_Mo_pop pd_Mo_pop (by decide) (by omega) (by decide) (by decide) rfl rfl (rc_pop hn hR hg hd hd6 (by omega)) ⟨rfl, rfl, Nat.le_of_ble_eq_true rfl, Nat.le_of_ble_eq_true rfl⟩ ⟨Nat.le_of_ble_eq_true rfl, Nat.le_of_ble_eq_true rfl⟩ d_Mo_perform_289 (Nat.le_of_ble_eq_true rfl) (fun r n2 M2 hp => ?_)
  obtain ⟨rfl, hq1, hq2⟩ := hp
  replace hq1 := hq1.symm
  replace hq2 := hq2.symm
  subst hq1 hq2
  refine fm_cnt (z' := (0, 0)) rfl (fm_st (st' := [.long (M.2.1 613 (6 * gi + (d - 1))), .int (nI gi), .ref 610]) rfl ?_)
  refine fm_l2i hc d_Mo_perform_292 ?_
  refine fm_top (congrArg Value.int (show (M.2.1 613 (6 * gi + (d - 1))).toInt32 = v by rw [hu]; exact vx_low v)) ?_
  refine fm_iast (j := gi) (len := 98) (v := v) hc 0 d_Mo_perform_293 (by decide) (by omega) (by decide) rfl (by omega) (by decide) ?_
  refine fm_aload_n hc d_Mo_perform_294 rfl rfl ?_
  refine fm_getR (k := 25) (q := 610) hc K_Mo d_Mo_perform_295 q_910 rfl (by decide) (by omega) (by decide) (by decide) (by decide) rfl (rp_wait hR) ?_
  refine fm_iload_n hc d_Mo_perform_298 rfl rfl ?_
  refine fm_iload_n hc d_Mo_perform_299 rfl rfl ?_
  refine fm_if_ge (tgt := 307) hc d_Mo_perform_300 rfl (fun g => absurd g (by decide)) (fun _ => ?_)
  refine fm_iconst (v := nI 0) hc d_Mo_perform_303 rfl ?_
  refine fm_goto (tgt := 313) hc d_Mo_perform_304 rfl ?_
  refine fm_iast (j := gi) (len := 98) (v := nI 0) hc 0 d_Mo_perform_313 (by decide) (by omega) (by decide) rfl (by omega) (by decide) ?_
  refine fm_goto (tgt := 391) hc d_Mo_perform_314 rfl ?_
  exact fm_vret hc hr d_Mo_perform_391 (Nat.le_refl _) (Nat.le_refl _) ⟨rfl, rfl, rfl⟩
theorem rq_14 {l : Launch} {b : Nat} {x : Nat → Nat} {D : va_G} {dA : Nat → ClassId} {gi d y : Nat} {h0 : Int32} {PR : fm_M → Prop} {n : Nat} {M : fm_M} (hn : 629 ≤ n) (hR : fm_RP M) (hg : gi < 98) (hd : M.1 612 gi = nI d) (hd6 : d ≤ 6) (hnp : Met l y_Mo_newPair (Cond.code y_Mo_newPair b_Mo_newPair 6 none :: fm_T0) ({ frames := 4, cells := 0, slots := 0, locals := 95 }) (fm_Pc fm_lay fm_nf fm_fk fm_cl b x D dA (fm_tys dA) (fm_EX b x) false [.ref 586, .int (nI gi)] n M) (fm_Qc fm_lay fm_nf fm_fk fm_cl b x D dA (fun r n' M' => r = none ∧ n' = n ∧ PR M')) 0 0 (fm_A b)) : Met l y_Mo_perform (Cond.code y_Mo_perform b_Mo_perform 5 none :: fm_T0) ({ frames := 6, cells := 0, slots := 0, locals := 170 }) (fm_Pc fm_lay fm_nf fm_fk fm_cl b x D dA (fm_tys dA) (fm_EX b x) false [.ref 586, .int (nI gi), .int h0, .int (nI 14), .int (nI y)] n M) (fm_Qc fm_lay fm_nf fm_fk fm_cl b x D dA (fun r n' M' => r = none ∧ n' = n ∧ PR M')) 0 0 (fm_A b) := by
  refine fm_enter (by decide) (Nat.le_of_ble_eq_true rfl) ?_
  intro p e s m args below meth c9 hc hr hnm hex htg
  refine fm_iload_n hc d_Mo_perform_0 rfl rfl ?_
  refine fm_tableIn (off := 316) (tgt := 317) hc d_Mo_perform_1 (by decide) (by decide) rfl rfl ?_
  refine fm_aload_n hc d_Mo_perform_317 rfl rfl ?_
  refine fm_iload_n hc d_Mo_perform_318 rfl rfl ?_
  refine fm_callV (av := [.int (nI gi)]) (rest := []) (ob := 586) (ci := 11) (r0 := ("AgentNetModel", F_Mo, 51)) (y := y_Mo_newPair) (bytes := b_Mo_newPair) hc fm_T0_good (fm_EX_st b x) hex q_1154 q_13 q_1151 q_1153 qs_Mo_newPair pd_Mo_newPair (by decide) (by omega) (by decide) (by decide) rfl rfl (hnp) ⟨rfl, rfl, Nat.le_of_ble_eq_true rfl, Nat.le_of_ble_eq_true rfl⟩ ⟨Nat.le_of_ble_eq_true rfl, Nat.le_of_ble_eq_true rfl⟩ d_Mo_perform_319 (Nat.le_of_ble_eq_true rfl) (fun r n2 M2 hp => ?_)
  obtain ⟨rfl, hq1, hpp⟩ := hp
  replace hq1 := hq1.symm
  subst hq1
  refine fm_cnt (z' := (0, 0)) rfl (fm_st (st' := []) rfl ?_)
  refine fm_goto (tgt := 391) hc d_Mo_perform_322 rfl ?_
  exact fm_vret hc hr d_Mo_perform_391 (Nat.le_refl _) (Nat.le_refl _) ⟨rfl, rfl, hpp⟩
theorem rq_15 {l : Launch} {b : Nat} {x : Nat → Nat} {D : va_G} {dA : Nat → ClassId} {gi d k y : Nat} {h0 : Int32}  {n : Nat} {M : fm_M} (hn : 629 ≤ n) (hR : fm_RP M) (hg : gi < 98) (hd : M.1 612 gi = nI d) (hd6 : d ≤ 6) (hd1 : 1 ≤ d) (hl : M.2.1 613 (6 * gi + (d - 1)) = 1099511627776 + (nI k).toInt64) (hk : k < 9) : Met l y_Mo_perform (Cond.code y_Mo_perform b_Mo_perform 5 none :: fm_T0) ({ frames := 6, cells := 0, slots := 0, locals := 170 }) (fm_Pc fm_lay fm_nf fm_fk fm_cl b x D dA (fm_tys dA) (fm_EX b x) false [.ref 586, .int (nI gi), .int h0, .int (nI 15), .int (nI y)] n M) (fm_Qc fm_lay fm_nf fm_fk fm_cl b x D dA (fun r n' M' => r = none ∧ n' = n ∧ M' = fm_put1 (fm_put2 (fm_put1 M 612 gi (nI (d - 1))) 613 (6 * gi + (d - 1)) (M.2.1 615 (9 * gi + k))) 612 gi (nI (d - 1 + 1)))) 0 0 (fm_A b) := by
  refine fm_enter (by decide) (Nat.le_of_ble_eq_true rfl) ?_
  intro p e s m args below meth c9 hc hr hnm hex htg
  refine fm_iload_n hc d_Mo_perform_0 rfl rfl ?_
  refine fm_tableIn (off := 324) (tgt := 325) hc d_Mo_perform_1 (by decide) (by decide) rfl rfl ?_
  refine fm_aload_n hc d_Mo_perform_325 rfl rfl ?_
  refine fm_iload_n hc d_Mo_perform_326 rfl rfl ?_
  refine fm_aload_n hc d_Mo_perform_327 rfl rfl ?_
  refine fm_getR (k := 30) (q := 615) hc K_Mo d_Mo_perform_328 q_915 rfl (by decide) (by omega) (by decide) (by decide) (by decide) rfl (rp_first hR) ?_
  refine fm_bipush (v := nI 9) hc d_Mo_perform_331 rfl ?_
  refine fm_iload_n hc d_Mo_perform_333 rfl rfl ?_
  refine fm_imul hc d_Mo_perform_334 ?_
  refine fm_top (congrArg Value.int (pk_mul 9 gi)) ?_
  refine fm_aload_n hc d_Mo_perform_335 rfl rfl ?_
  refine fm_iload_n hc d_Mo_perform_336 rfl rfl ?_
  refine fm_callV (av := [.int (nI gi)]) (rest := [.int (nI (9 * gi)), .ref 615, .int (nI gi), .ref 586]) (ob := 586) (ci := 11) (r0 := ("AgentNetModel", F_Mo, 51)) (y := y_Mo_pop) (bytes := b_Mo_pop) hc fm_T0_good (fm_EX_st b x) hex q_1129 q_13 q_1126 q_1128 qs_Mo_pop pd_Mo_pop (by decide) (by omega) (by decide) (by decide) rfl rfl (by have h9 := rc_pop (l := l) (b := b) (x := x) (D := D) (dA := dA) (n := n) (M := M) (d := d) hn hR hg hd hd6 (by omega); rw [hl] at h9; exact h9) ⟨rfl, rfl, Nat.le_of_ble_eq_true rfl, Nat.le_of_ble_eq_true rfl⟩ ⟨Nat.le_of_ble_eq_true rfl, Nat.le_of_ble_eq_true rfl⟩ d_Mo_perform_337 (Nat.le_of_ble_eq_true rfl) (fun r n2 M2 hp => ?_)
  obtain ⟨rfl, hq1, hq2⟩ := hp
  replace hq1 := hq1.symm
  replace hq2 := hq2.symm
  subst hq1 hq2
  refine fm_cnt (z' := (0, 0)) rfl (fm_st (st' := [.long (1099511627776 + (nI k).toInt64), .int (nI (9 * gi)), .ref 615, .int (nI gi), .ref 586]) rfl ?_)
  refine fm_callS (av := [.long (1099511627776 + (nI k).toInt64)]) (rest := [.int (nI (9 * gi)), .ref 615, .int (nI gi), .ref 586]) (y := y_Mo_pairOf) (bytes := b_Mo_pairOf) hc fm_T0_good (fm_EX_st b x) hex q_1113 q_13 q_1111 q_1112 pd_Mo_pairOf (rc_pairOf (by omega)) ⟨rfl, rfl, Nat.le_of_ble_eq_true rfl, Nat.le_of_ble_eq_true rfl⟩ ⟨Nat.le_of_ble_eq_true rfl, Nat.le_of_ble_eq_true rfl⟩ d_Mo_perform_340 (Nat.le_of_ble_eq_true rfl) (fun r n2 M2 hp => ?_)
  obtain ⟨rfl, hq1, hq2⟩ := hp
  replace hq1 := hq1.symm
  replace hq2 := hq2.symm
  subst hq1 hq2
  refine fm_cnt (z' := (0, 0)) rfl (fm_st (st' := [.int (nI k), .int (nI (9 * gi)), .ref 615, .int (nI gi), .ref 586]) rfl ?_)
  refine fm_iadd hc d_Mo_perform_343 ?_
  refine fm_top (congrArg Value.int (nI_add (9 * gi) k)) ?_
  refine fm_lald (j := (9 * gi) + k) (len := 882) hc 3 d_Mo_perform_344 (by decide) (by omega) (by decide) rfl (by omega) (by decide) ?_
  refine fm_callV (av := [.int (nI gi), .long ((fm_put1 M 612 gi (nI (d - 1))).2.1 615 ((9 * gi) + k))]) (rest := []) (ob := 586) (ci := 11) (r0 := ("AgentNetModel", F_Mo, 51)) (y := y_Mo_push) (bytes := b_Mo_push) hc fm_T0_good (fm_EX_st b x) hex q_1121 q_13 q_1118 q_1120 qs_Mo_push pd_Mo_push (by decide) (by omega) (by decide) (by decide) rfl rfl (rc_push (M := fm_put1 M 612 gi (nI (d - 1))) (d := d - 1) hn hR hg (p1_same _ _ _ _) (by omega)) ⟨rfl, rfl, Nat.le_of_ble_eq_true rfl, Nat.le_of_ble_eq_true rfl⟩ ⟨Nat.le_of_ble_eq_true rfl, Nat.le_of_ble_eq_true rfl⟩ d_Mo_perform_345 (Nat.le_of_ble_eq_true rfl) (fun r n2 M2 hp => ?_)
  obtain ⟨rfl, hq1, hq2⟩ := hp
  replace hq1 := hq1.symm
  replace hq2 := hq2.symm
  subst hq1 hq2
  refine fm_cnt (z' := (0, 0)) rfl (fm_st (st' := []) rfl ?_)
  refine fm_goto (tgt := 391) hc d_Mo_perform_348 rfl ?_
  exact fm_vret hc hr d_Mo_perform_391 (Nat.le_refl _) (Nat.le_refl _) ⟨rfl, rfl, rfl⟩
theorem rq_16 {l : Launch} {b : Nat} {x : Nat → Nat} {D : va_G} {dA : Nat → ClassId} {gi d k y : Nat} {h0 : Int32}  {n : Nat} {M : fm_M} (hn : 629 ≤ n) (hR : fm_RP M) (hg : gi < 98) (hd : M.1 612 gi = nI d) (hd6 : d ≤ 6) (hd1 : 1 ≤ d) (hl : M.2.1 613 (6 * gi + (d - 1)) = 1099511627776 + (nI k).toInt64) (hk : k < 9) : Met l y_Mo_perform (Cond.code y_Mo_perform b_Mo_perform 5 none :: fm_T0) ({ frames := 6, cells := 0, slots := 0, locals := 170 }) (fm_Pc fm_lay fm_nf fm_fk fm_cl b x D dA (fm_tys dA) (fm_EX b x) false [.ref 586, .int (nI gi), .int h0, .int (nI 16), .int (nI y)] n M) (fm_Qc fm_lay fm_nf fm_fk fm_cl b x D dA (fun r n' M' => r = none ∧ n' = n ∧ M' = fm_put1 (fm_put2 (fm_put1 M 612 gi (nI (d - 1))) 613 (6 * gi + (d - 1)) (M.2.1 616 (9 * gi + k))) 612 gi (nI (d - 1 + 1)))) 0 0 (fm_A b) := by
  refine fm_enter (by decide) (Nat.le_of_ble_eq_true rfl) ?_
  intro p e s m args below meth c9 hc hr hnm hex htg
  refine fm_iload_n hc d_Mo_perform_0 rfl rfl ?_
  refine fm_tableIn (off := 350) (tgt := 351) hc d_Mo_perform_1 (by decide) (by decide) rfl rfl ?_
  refine fm_aload_n hc d_Mo_perform_351 rfl rfl ?_
  refine fm_iload_n hc d_Mo_perform_352 rfl rfl ?_
  refine fm_aload_n hc d_Mo_perform_353 rfl rfl ?_
  refine fm_getR (k := 31) (q := 616) hc K_Mo d_Mo_perform_354 q_916 rfl (by decide) (by omega) (by decide) (by decide) (by decide) rfl (rp_second hR) ?_
  refine fm_bipush (v := nI 9) hc d_Mo_perform_357 rfl ?_
  refine fm_iload_n hc d_Mo_perform_359 rfl rfl ?_
  refine fm_imul hc d_Mo_perform_360 ?_
  refine fm_top (congrArg Value.int (pk_mul 9 gi)) ?_
  refine fm_aload_n hc d_Mo_perform_361 rfl rfl ?_
  refine fm_iload_n hc d_Mo_perform_362 rfl rfl ?_
  refine fm_callV (av := [.int (nI gi)]) (rest := [.int (nI (9 * gi)), .ref 616, .int (nI gi), .ref 586]) (ob := 586) (ci := 11) (r0 := ("AgentNetModel", F_Mo, 51)) (y := y_Mo_pop) (bytes := b_Mo_pop) hc fm_T0_good (fm_EX_st b x) hex q_1129 q_13 q_1126 q_1128 qs_Mo_pop pd_Mo_pop (by decide) (by omega) (by decide) (by decide) rfl rfl (by have h9 := rc_pop (l := l) (b := b) (x := x) (D := D) (dA := dA) (n := n) (M := M) (d := d) hn hR hg hd hd6 (by omega); rw [hl] at h9; exact h9) ⟨rfl, rfl, Nat.le_of_ble_eq_true rfl, Nat.le_of_ble_eq_true rfl⟩ ⟨Nat.le_of_ble_eq_true rfl, Nat.le_of_ble_eq_true rfl⟩ d_Mo_perform_363 (Nat.le_of_ble_eq_true rfl) (fun r n2 M2 hp => ?_)
  obtain ⟨rfl, hq1, hq2⟩ := hp
  replace hq1 := hq1.symm
  replace hq2 := hq2.symm
  subst hq1 hq2
  refine fm_cnt (z' := (0, 0)) rfl (fm_st (st' := [.long (1099511627776 + (nI k).toInt64), .int (nI (9 * gi)), .ref 616, .int (nI gi), .ref 586]) rfl ?_)
  refine fm_callS (av := [.long (1099511627776 + (nI k).toInt64)]) (rest := [.int (nI (9 * gi)), .ref 616, .int (nI gi), .ref 586]) (y := y_Mo_pairOf) (bytes := b_Mo_pairOf) hc fm_T0_good (fm_EX_st b x) hex q_1113 q_13 q_1111 q_1112 pd_Mo_pairOf (rc_pairOf (by omega)) ⟨rfl, rfl, Nat.le_of_ble_eq_true rfl, Nat.le_of_ble_eq_true rfl⟩ ⟨Nat.le_of_ble_eq_true rfl, Nat.le_of_ble_eq_true rfl⟩ d_Mo_perform_366 (Nat.le_of_ble_eq_true rfl) (fun r n2 M2 hp => ?_)
  obtain ⟨rfl, hq1, hq2⟩ := hp
  replace hq1 := hq1.symm
  replace hq2 := hq2.symm
  subst hq1 hq2
  refine fm_cnt (z' := (0, 0)) rfl (fm_st (st' := [.int (nI k), .int (nI (9 * gi)), .ref 616, .int (nI gi), .ref 586]) rfl ?_)
  refine fm_iadd hc d_Mo_perform_369 ?_
  refine fm_top (congrArg Value.int (nI_add (9 * gi) k)) ?_
  refine fm_lald (j := (9 * gi) + k) (len := 882) hc 3 d_Mo_perform_370 (by decide) (by omega) (by decide) rfl (by omega) (by decide) ?_
  refine fm_callV (av := [.int (nI gi), .long ((fm_put1 M 612 gi (nI (d - 1))).2.1 616 ((9 * gi) + k))]) (rest := []) (ob := 586) (ci := 11) (r0 := ("AgentNetModel", F_Mo, 51)) (y := y_Mo_push) (bytes := b_Mo_push) hc fm_T0_good (fm_EX_st b x) hex q_1121 q_13 q_1118 q_1120 qs_Mo_push pd_Mo_push (by decide) (by omega) (by decide) (by decide) rfl rfl (rc_push (M := fm_put1 M 612 gi (nI (d - 1))) (d := d - 1) hn hR hg (p1_same _ _ _ _) (by omega)) ⟨rfl, rfl, Nat.le_of_ble_eq_true rfl, Nat.le_of_ble_eq_true rfl⟩ ⟨Nat.le_of_ble_eq_true rfl, Nat.le_of_ble_eq_true rfl⟩ d_Mo_perform_371 (Nat.le_of_ble_eq_true rfl) (fun r n2 M2 hp => ?_)
  obtain ⟨rfl, hq1, hq2⟩ := hp
  replace hq1 := hq1.symm
  replace hq2 := hq2.symm
  subst hq1 hq2
  refine fm_cnt (z' := (0, 0)) rfl (fm_st (st' := []) rfl ?_)
  refine fm_goto (tgt := 391) hc d_Mo_perform_374 rfl ?_
  exact fm_vret hc hr d_Mo_perform_391 (Nat.le_refl _) (Nat.le_refl _) ⟨rfl, rfl, rfl⟩
theorem rq_17 {l : Launch} {b : Nat} {x : Nat → Nat} {D : va_G} {dA : Nat → ClassId} {gi d k y : Nat} {h0 : Int32}  {n : Nat} {M : fm_M} (hn : 629 ≤ n) (hR : fm_RP M) (hg : gi < 98) (hd : M.1 612 gi = nI d) (hd6 : d ≤ 6) (hd2 : 2 ≤ d) (hl : M.2.1 613 (6 * gi + (d - 1 - 1)) = 1099511627776 + (nI k).toInt64) (hk : k < 9) : Met l y_Mo_perform (Cond.code y_Mo_perform b_Mo_perform 5 none :: fm_T0) ({ frames := 6, cells := 0, slots := 0, locals := 170 }) (fm_Pc fm_lay fm_nf fm_fk fm_cl b x D dA (fm_tys dA) (fm_EX b x) false [.ref 586, .int (nI gi), .int h0, .int (nI 17), .int (nI y)] n M) (fm_Qc fm_lay fm_nf fm_fk fm_cl b x D dA (fun r n' M' => r = none ∧ n' = n ∧ M' = fm_put2 (fm_put1 (fm_put1 M 612 gi (nI (d - 1))) 612 gi (nI (d - 1 - 1))) 615 (9 * gi + k) (M.2.1 613 (6 * gi + (d - 1))))) 0 0 (fm_A b) := by
  refine fm_enter (by decide) (Nat.le_of_ble_eq_true rfl) ?_
  intro p e s m args below meth c9 hc hr hnm hex htg
  refine fm_iload_n hc d_Mo_perform_0 rfl rfl ?_
  refine fm_tableIn (off := 376) (tgt := 377) hc d_Mo_perform_1 (by decide) (by decide) rfl rfl ?_
  refine fm_aload_n hc d_Mo_perform_377 rfl rfl ?_
  refine fm_iload_n hc d_Mo_perform_378 rfl rfl ?_
  refine fm_iload_n hc d_Mo_perform_379 rfl rfl ?_
  refine fm_callV (av := [.int (nI gi), .int (nI 17)]) (rest := []) (ob := 586) (ci := 11) (r0 := ("AgentNetModel", F_Mo, 51)) (y := y_Mo_put) (bytes := b_Mo_put) hc fm_T0_good (fm_EX_st b x) hex q_1166 q_13 q_1163 q_1165 qs_Mo_put pd_Mo_put (by decide) (by omega) (by decide) (by decide) rfl rfl (rc_put_17 hn hR hg hd hd6 hd2 hl hk) ⟨rfl, rfl, Nat.le_of_ble_eq_true rfl, Nat.le_of_ble_eq_true rfl⟩ ⟨Nat.le_of_ble_eq_true rfl, Nat.le_of_ble_eq_true rfl⟩ d_Mo_perform_380 (Nat.le_of_ble_eq_true rfl) (fun r n2 M2 hp => ?_)
  obtain ⟨rfl, hq1, hq2⟩ := hp
  replace hq1 := hq1.symm
  replace hq2 := hq2.symm
  subst hq1 hq2
  refine fm_cnt (z' := (0, 0)) rfl (fm_st (st' := []) rfl ?_)
  refine fm_goto (tgt := 391) hc d_Mo_perform_383 rfl ?_
  exact fm_vret hc hr d_Mo_perform_391 (Nat.le_refl _) (Nat.le_refl _) ⟨rfl, rfl, rfl⟩
theorem rq_18 {l : Launch} {b : Nat} {x : Nat → Nat} {D : va_G} {dA : Nat → ClassId} {gi d k y : Nat} {h0 : Int32}  {n : Nat} {M : fm_M} (hn : 629 ≤ n) (hR : fm_RP M) (hg : gi < 98) (hd : M.1 612 gi = nI d) (hd6 : d ≤ 6) (hd2 : 2 ≤ d) (hl : M.2.1 613 (6 * gi + (d - 1 - 1)) = 1099511627776 + (nI k).toInt64) (hk : k < 9) : Met l y_Mo_perform (Cond.code y_Mo_perform b_Mo_perform 5 none :: fm_T0) ({ frames := 6, cells := 0, slots := 0, locals := 170 }) (fm_Pc fm_lay fm_nf fm_fk fm_cl b x D dA (fm_tys dA) (fm_EX b x) false [.ref 586, .int (nI gi), .int h0, .int (nI 18), .int (nI y)] n M) (fm_Qc fm_lay fm_nf fm_fk fm_cl b x D dA (fun r n' M' => r = none ∧ n' = n ∧ M' = fm_put2 (fm_put1 (fm_put1 M 612 gi (nI (d - 1))) 612 gi (nI (d - 1 - 1))) 616 (9 * gi + k) (M.2.1 613 (6 * gi + (d - 1))))) 0 0 (fm_A b) := by
  refine fm_enter (by decide) (Nat.le_of_ble_eq_true rfl) ?_
  intro p e s m args below meth c9 hc hr hnm hex htg
  refine fm_iload_n hc d_Mo_perform_0 rfl rfl ?_
  refine fm_tableIn (off := 376) (tgt := 377) hc d_Mo_perform_1 (by decide) (by decide) rfl rfl ?_
  refine fm_aload_n hc d_Mo_perform_377 rfl rfl ?_
  refine fm_iload_n hc d_Mo_perform_378 rfl rfl ?_
  refine fm_iload_n hc d_Mo_perform_379 rfl rfl ?_
  refine fm_callV (av := [.int (nI gi), .int (nI 18)]) (rest := []) (ob := 586) (ci := 11) (r0 := ("AgentNetModel", F_Mo, 51)) (y := y_Mo_put) (bytes := b_Mo_put) hc fm_T0_good (fm_EX_st b x) hex q_1166 q_13 q_1163 q_1165 qs_Mo_put pd_Mo_put (by decide) (by omega) (by decide) (by decide) rfl rfl (rc_put_18 hn hR hg hd hd6 hd2 hl hk) ⟨rfl, rfl, Nat.le_of_ble_eq_true rfl, Nat.le_of_ble_eq_true rfl⟩ ⟨Nat.le_of_ble_eq_true rfl, Nat.le_of_ble_eq_true rfl⟩ d_Mo_perform_380 (Nat.le_of_ble_eq_true rfl) (fun r n2 M2 hp => ?_)
  obtain ⟨rfl, hq1, hq2⟩ := hp
  replace hq1 := hq1.symm
  replace hq2 := hq2.symm
  subst hq1 hq2
  refine fm_cnt (z' := (0, 0)) rfl (fm_st (st' := []) rfl ?_)
  refine fm_goto (tgt := 391) hc d_Mo_perform_383 rfl ?_
  exact fm_vret hc hr d_Mo_perform_391 (Nat.le_refl _) (Nat.le_refl _) ⟨rfl, rfl, rfl⟩
theorem rq_19e {l : Launch} {b : Nat} {x : Nat → Nat} {D : va_G} {dA : Nat → ClassId} {gi d y : Nat} {h0 : Int32}  {n : Nat} {M : fm_M} (hn : 629 ≤ n) (hR : fm_RP M) (hg : gi < 98) (hd : M.1 612 gi = nI d) (hd6 : d ≤ 6) (hd2 : 2 ≤ d) (h1 : M.2.1 613 (6 * gi + (d - 1 - 1)) = M.2.1 613 (6 * gi + (d - 1))) : Met l y_Mo_perform (Cond.code y_Mo_perform b_Mo_perform 5 none :: fm_T0) ({ frames := 6, cells := 0, slots := 0, locals := 170 }) (fm_Pc fm_lay fm_nf fm_fk fm_cl b x D dA (fm_tys dA) (fm_EX b x) false [.ref 586, .int (nI gi), .int h0, .int (nI 19), .int (nI y)] n M) (fm_Qc fm_lay fm_nf fm_fk fm_cl b x D dA (fun r n' M' => r = none ∧ n' = n ∧ M' = fm_put1 (fm_put2 (fm_put1 (fm_put1 M 612 gi (nI (d - 1))) 612 gi (nI (d - 1 - 1))) 613 (6 * gi + (d - 1 - 1)) 1) 612 gi (nI (d - 1 - 1 + 1)))) 0 0 (fm_A b) := by
  refine fm_enter (by decide) (Nat.le_of_ble_eq_true rfl) ?_
  intro p e s m args below meth c9 hc hr hnm hex htg
  refine fm_iload_n hc d_Mo_perform_0 rfl rfl ?_
  refine fm_tableOut (tgt := 386) hc d_Mo_perform_1 (by decide) rfl ?_
  refine fm_aload_n hc d_Mo_perform_386 rfl rfl ?_
  refine fm_iload_n hc d_Mo_perform_387 rfl rfl ?_
  refine fm_callV (av := [.int (nI gi)]) (rest := []) (ob := 586) (ci := 11) (r0 := ("AgentNetModel", F_Mo, 51)) (y := y_Mo_compare) (bytes := b_Mo_compare) hc fm_T0_good (fm_EX_st b x) hex q_1170 q_13 q_1167 q_1169 qs_Mo_compare pd_Mo_compare (by decide) (by omega) (by decide) (by decide) rfl rfl (rc_cmp_e hn hR hg hd hd6 hd2 h1) ⟨rfl, rfl, Nat.le_of_ble_eq_true rfl, Nat.le_of_ble_eq_true rfl⟩ ⟨Nat.le_of_ble_eq_true rfl, Nat.le_of_ble_eq_true rfl⟩ d_Mo_perform_388 (Nat.le_of_ble_eq_true rfl) (fun r n2 M2 hp => ?_)
  obtain ⟨rfl, hq1, hq2⟩ := hp
  replace hq1 := hq1.symm
  replace hq2 := hq2.symm
  subst hq1 hq2
  refine fm_cnt (z' := (0, 0)) rfl (fm_st (st' := []) rfl ?_)
  exact fm_vret hc hr d_Mo_perform_391 (Nat.le_refl _) (Nat.le_refl _) ⟨rfl, rfl, rfl⟩
theorem rq_19n {l : Launch} {b : Nat} {x : Nat → Nat} {D : va_G} {dA : Nat → ClassId} {gi d y : Nat} {h0 : Int32}  {n : Nat} {M : fm_M} (hn : 629 ≤ n) (hR : fm_RP M) (hg : gi < 98) (hd : M.1 612 gi = nI d) (hd6 : d ≤ 6) (hd2 : 2 ≤ d) (h1 : ¬ M.2.1 613 (6 * gi + (d - 1 - 1)) = M.2.1 613 (6 * gi + (d - 1))) : Met l y_Mo_perform (Cond.code y_Mo_perform b_Mo_perform 5 none :: fm_T0) ({ frames := 6, cells := 0, slots := 0, locals := 170 }) (fm_Pc fm_lay fm_nf fm_fk fm_cl b x D dA (fm_tys dA) (fm_EX b x) false [.ref 586, .int (nI gi), .int h0, .int (nI 19), .int (nI y)] n M) (fm_Qc fm_lay fm_nf fm_fk fm_cl b x D dA (fun r n' M' => r = none ∧ n' = n ∧ M' = fm_put1 (fm_put2 (fm_put1 (fm_put1 M 612 gi (nI (d - 1))) 612 gi (nI (d - 1 - 1))) 613 (6 * gi + (d - 1 - 1)) 0) 612 gi (nI (d - 1 - 1 + 1)))) 0 0 (fm_A b) := by
  refine fm_enter (by decide) (Nat.le_of_ble_eq_true rfl) ?_
  intro p e s m args below meth c9 hc hr hnm hex htg
  refine fm_iload_n hc d_Mo_perform_0 rfl rfl ?_
  refine fm_tableOut (tgt := 386) hc d_Mo_perform_1 (by decide) rfl ?_
  refine fm_aload_n hc d_Mo_perform_386 rfl rfl ?_
  refine fm_iload_n hc d_Mo_perform_387 rfl rfl ?_
  refine fm_callV (av := [.int (nI gi)]) (rest := []) (ob := 586) (ci := 11) (r0 := ("AgentNetModel", F_Mo, 51)) (y := y_Mo_compare) (bytes := b_Mo_compare) hc fm_T0_good (fm_EX_st b x) hex q_1170 q_13 q_1167 q_1169 qs_Mo_compare pd_Mo_compare (by decide) (by omega) (by decide) (by decide) rfl rfl (rc_cmp_n hn hR hg hd hd6 hd2 h1) ⟨rfl, rfl, Nat.le_of_ble_eq_true rfl, Nat.le_of_ble_eq_true rfl⟩ ⟨Nat.le_of_ble_eq_true rfl, Nat.le_of_ble_eq_true rfl⟩ d_Mo_perform_388 (Nat.le_of_ble_eq_true rfl) (fun r n2 M2 hp => ?_)
  obtain ⟨rfl, hq1, hq2⟩ := hp
  replace hq1 := hq1.symm
  replace hq2 := hq2.symm
  subst hq1 hq2
  refine fm_cnt (z' := (0, 0)) rfl (fm_st (st' := []) rfl ?_)
  exact fm_vret hc hr d_Mo_perform_391 (Nat.le_refl _) (Nat.le_refl _) ⟨rfl, rfl, rfl⟩
