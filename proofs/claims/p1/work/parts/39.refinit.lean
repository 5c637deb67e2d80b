def fm_M1 : fm_M := fm_clr (m_An_init fm_M0) 586
def m_Mo0 (M : fm_M) : fm_M := (fm_put3 (fm_clr (fm_put3 (fm_clr (fm_put3 (fm_clr (fm_put3 (fm_clr (fm_put3 (fm_clr (fm_put3 (fm_clr (fm_put3 (fm_clr (fm_put3 (fm_clr (fm_put3 (fm_clr (fm_put3 (fm_clr (fm_put3 (fm_clr (fm_put3 (fm_clr (fm_put3 (fm_clr (fm_put3 (fm_clr (fm_put3 (fm_clr (fm_put3 (fm_clr (fm_put3 (fm_clr (fm_put3 (fm_clr (fm_put3 (fm_clr (fm_put3 (fm_clr (fm_put3 (fm_clr (fm_put3 (fm_clr (fm_put3 (fm_clr (fm_put3 (fm_clr (fm_put3 (fm_clr (fm_put3 (fm_clr (fm_put3 (fm_clr (fm_put3 (fm_clr (fm_put3 (fm_clr (fm_put3 (fm_clr (fm_put3 (fm_clr (fm_put3 (fm_clr (fm_put3 (fm_clr (fm_put3 (fm_clr (fm_put3 (fm_clr (fm_put3 (fm_clr (fm_put3 (fm_clr (fm_put3 (fm_clr (fm_put3 (fm_clr (fm_put3 (fm_clr (fm_put3 (fm_clr (fm_put3 (fm_clr M 587) 586 1 (some 587)) 588) 586 2 (some 588)) 589) 586 3 (some 589)) 590) 586 5 (some 590)) 591) 586 6 (some 591)) 592) 586 7 (some 592)) 593) 586 8 (some 593)) 594) 586 9 (some 594)) 595) 586 10 (some 595)) 596) 586 11 (some 596)) 597) 586 12 (some 597)) 598) 586 13 (some 598)) 599) 586 14 (some 599)) 600) 586 15 (some 600)) 601) 586 16 (some 601)) 602) 586 17 (some 602)) 603) 586 18 (some 603)) 604) 586 19 (some 604)) 605) 586 20 (some 605)) 606) 586 21 (some 606)) 607) 586 22 (some 607)) 608) 586 23 (some 608)) 609) 586 24 (some 609)) 610) 586 25 (some 610)) 611) 586 26 (some 611)) 612) 586 27 (some 612)) 613) 586 28 (some 613)) 614) 586 29 (some 614)) 615) 586 30 (some 615)) 616) 586 31 (some 616)) 617) 586 33 (some 617)) 618) 586 34 (some 618)) 619) 586 35 (some 619)) 620) 586 36 (some 620)) 621) 586 38 (some 621)) 622) 586 39 (some 622)) 623) 586 40 (some 623)) 624) 586 41 (some 624)) 625) 586 42 (some 625)) 626) 586 43 (some 626)) 627) 586 44 (some 627)) 628) 586 49 (some 628))
def m_MoU (M : fm_M) : Nat → fm_M
  | 0 => m_Mo0 M
  | i + 1 => fm_put1 (m_MoU M i) 595 i (vp_nar .boolean (nI 1))
def m_MoF (M : fm_M) : Nat → fm_M
  | 0 => m_MoU M 4
  | i + 1 => m_fgt (m_MoF M i) (8 * i) 8
def m_Mo_init (M : fm_M) : fm_M := m_MoF M 12
theorem m_Mo0_R : fm_RP (m_Mo0 fm_M1) := by
  have h : fm_rp.all (fun q => decide ((m_Mo0 fm_M1).2.2 586 q.1 = some q.2)) = true := by decide +kernel
  intro q hq
  exact of_decide_eq_true (List.all_eq_true.mp h q hq)
theorem m_MoU_R : ∀ i, fm_RP (m_MoU fm_M1 i)
  | 0 => m_Mo0_R
  | i + 1 => m_MoU_R i
theorem m_MoF_R : ∀ i, fm_RP (m_MoF fm_M1 i)
  | 0 => m_MoU_R 4
  | i + 1 => m_MoF_R i
set_option maxRecDepth 100000 in
set_option maxHeartbeats 8000000 in
theorem c_Mo_init {l : Launch} {b : Nat} {x : Nat → Nat} {D : va_G} {dA : Nat → ClassId} : Met l y_Mo_init (Cond.code y_Mo_init b_Mo_init 2 none :: fm_T0) ({ frames := 2, cells := 42, slots := 8604, locals := 60 }) (fm_Pc fm_lay fm_nf fm_fk fm_cl b x D dA (fm_tys dA) (fm_EX b x) true [.ref 586] 587 fm_M1) (fm_Qc fm_lay fm_nf fm_fk fm_cl b x D dA (fun r n' M' => r = none ∧ n' = 629 ∧ M' = m_Mo_init fm_M1)) 42 8604 (fm_A b) := by
  refine fm_enter (by decide) (Nat.le_of_ble_eq_true rfl) ?_
  intro p e s m args below meth c hc hr hnm hex htg
  have ht := htg rfl
  have loop363 : ∀ k i, i + k = 12 → fm_G p l e (headSpec (Cond.code y_Mo_init b_Mo_init 2 none :: fm_T0) ({ frames := 2, cells := 42, slots := 8604, locals := 60 })).room s m args below meth c (MQ below (fm_Qc fm_lay fm_nf fm_fk fm_cl b x D dA (fun r n' M' => r = none ∧ n' = 629 ∧ M' = m_Mo_init fm_M1)) args s 42 8604 (fm_A b)) fm_lay fm_nf fm_fk fm_cl b x D dA 2 363 [(1, .int (nI i)), (0, .ref 586)] [] 629 (m_MoF fm_M1 i) (42, 8604) := by
    intro k
    induction k with
    | zero =>
      intro i hi
      have hi : i = 12 := by omega
      subst hi
      refine fm_iload_n hc d_Mo_init_363 rfl rfl ?_
      refine fm_bipush (v := nI 12) hc d_Mo_init_364 rfl ?_
      refine fm_icmp_ge (tgt := 380) hc d_Mo_init_366 rfl (fun h => ?_) (fun h => absurd (nI_le (Nat.le_refl _) (by omega)) h)
      exact fm_vret hc hr d_Mo_init_380 (Nat.le_of_ble_eq_true rfl) (Nat.le_of_ble_eq_true rfl) ⟨rfl, rfl, rfl⟩
    | succ k ih =>
      intro i hi
      refine fm_iload_n hc d_Mo_init_363 rfl rfl ?_
      refine fm_bipush (v := nI 12) hc d_Mo_init_364 rfl ?_
      refine fm_icmp_ge (tgt := 380) hc d_Mo_init_366 rfl (fun h => absurd h (nI_ge (by omega) (by omega))) (fun h => ?_)
      refine fm_aload_n hc d_Mo_init_369 rfl rfl ?_
      refine fm_iload_n hc d_Mo_init_370 rfl rfl ?_
      refine fm_callV (av := [.int (nI i)]) (rest := []) (ob := 586) (ci := 11) (r0 := ("AgentNetModel", F_Mo, 51)) (y := y_Mo_forget) (bytes := b_Mo_forget) hc fm_T0_good (fm_EX_st b x) hex q_884 q_13 q_881 q_883 qs_Mo_forget pd_Mo_forget (by decide) (by decide) (by decide) (by decide) rfl rfl (c_Mo_forget (l := l) (b := b) (x := x) (D := D) (dA := dA) (n := 629) (k := i) (Nat.le_refl _) (by omega) (m_MoF_R i)) ⟨rfl, rfl, Nat.le_of_ble_eq_true rfl, Nat.le_of_ble_eq_true rfl⟩ ⟨Nat.le_of_ble_eq_true rfl, Nat.le_of_ble_eq_true rfl⟩ d_Mo_init_371 (Nat.le_of_ble_eq_true rfl) (fun r n2 M2 hp => ?_)
      obtain ⟨rfl, rfl, rfl⟩ := hp
      refine fm_st (st' := []) rfl ?_
      refine fm_iinc (v := nI (i + 1)) (lv' := [(1, .int (nI (i + 1))), (0, .ref 586)]) hc d_Mo_init_374 rfl (nI_1 i) (by decide) rfl ?_
      refine fm_goto (tgt := 363) hc d_Mo_init_377 rfl ?_
      exact fm_cnt rfl (ih (i + 1) (by omega))
  have loop343 : ∀ k i, i + k = 4 → fm_G p l e (headSpec (Cond.code y_Mo_init b_Mo_init 2 none :: fm_T0) ({ frames := 2, cells := 42, slots := 8604, locals := 60 })).room s m args below meth c (MQ below (fm_Qc fm_lay fm_nf fm_fk fm_cl b x D dA (fun r n' M' => r = none ∧ n' = 629 ∧ M' = m_Mo_init fm_M1)) args s 42 8604 (fm_A b)) fm_lay fm_nf fm_fk fm_cl b x D dA 2 343 [(1, .int (nI i)), (0, .ref 586)] [] 629 (m_MoU fm_M1 i) (42, 8604) := by
    intro k
    induction k with
    | zero =>
      intro i hi
      have hi : i = 4 := by omega
      subst hi
      refine fm_iload_n hc d_Mo_init_343 rfl rfl ?_
      refine fm_iconst (v := nI 4) hc d_Mo_init_344 rfl ?_
      refine fm_icmp_ge (tgt := 361) hc d_Mo_init_345 rfl (fun h => ?_) (fun h => absurd (nI_le (Nat.le_refl _) (by omega)) h)
      refine fm_iconst (v := nI 0) hc d_Mo_init_361 rfl ?_
      refine fm_istore_n (lv' := [(1, .int (nI 0)), (0, .ref 586)]) hc d_Mo_init_362 rfl (by decide) rfl ?_
      exact loop363 12 0 rfl
    | succ k ih =>
      intro i hi
      refine fm_iload_n hc d_Mo_init_343 rfl rfl ?_
      refine fm_iconst (v := nI 4) hc d_Mo_init_344 rfl ?_
      refine fm_icmp_ge (tgt := 361) hc d_Mo_init_345 rfl (fun h => absurd h (nI_ge (by omega) (by omega))) (fun h => ?_)
      refine fm_aload_n hc d_Mo_init_348 rfl rfl ?_
      refine fm_getR (k := 10) (q := 595) hc K_Mo d_Mo_init_349 q_895 rfl (by decide) (by omega) (by decide) (by decide) (by decide) rfl (rp_up (m_MoU_R i)) ?_
      refine fm_iload_n hc d_Mo_init_352 rfl rfl ?_
      refine fm_iconst (v := nI 1) hc d_Mo_init_353 rfl ?_
      refine fm_zast (j := i) (len := 4) (v := nI 1) hc 1 d_Mo_init_354 (by decide) (by omega) (by decide) rfl (by omega) (by decide) ?_
      refine fm_iinc (v := nI (i + 1)) (lv' := [(1, .int (nI (i + 1))), (0, .ref 586)]) hc d_Mo_init_355 rfl (nI_1 i) (by decide) rfl ?_
      refine fm_goto (tgt := 343) hc d_Mo_init_358 rfl ?_
      exact ih (i + 1) (by omega)
  refine fm_aload_n hc d_Mo_init_0 rfl rfl ?_
  refine fm_objInit hc q_880 q_29 q_30 d_Mo_init_1 (Nat.le_of_ble_eq_true rfl) (Nat.le_of_ble_eq_true rfl) ?_
  refine fm_aload_n hc d_Mo_init_4 rfl rfl ?_
  refine fm_sipush (v := nI 192) hc d_Mo_init_5 rfl ?_
  refine fm_newI (len := 192) hc 0 d_Mo_init_8 q_80 (by omega) (by decide) rfl (by decide) (by omega) (Nat.le_of_ble_eq_true rfl) (Nat.le_of_ble_eq_true rfl) ?_
  refine fm_putRF (k := 1) (v := 587) hc K_Mo d_Mo_init_10 q_886 rfl (by decide) (by omega) (by decide) (by decide) (by decide) rfl rfl hnm rfl rfl rfl ?_
  refine fm_nm (fun M1 hM1 => ?_)
  refine fm_aload_n hc d_Mo_init_13 rfl rfl ?_
  refine fm_iconst (v := nI 4) hc d_Mo_init_14 rfl ?_
  refine fm_newI (len := 4) hc 0 d_Mo_init_15 q_80 (by omega) (by decide) rfl (by decide) (by omega) (Nat.le_of_ble_eq_true rfl) (Nat.le_of_ble_eq_true rfl) ?_
  refine fm_putRF (k := 2) (v := 588) hc K_Mo d_Mo_init_17 q_887 rfl (by decide) (by omega) (by decide) (by decide) (by decide) rfl rfl hnm rfl rfl rfl ?_
  refine fm_nm (fun M2 hM2 => ?_)
  refine fm_aload_n hc d_Mo_init_20 rfl rfl ?_
  refine fm_bipush (v := nI 32) hc d_Mo_init_21 rfl ?_
  refine fm_newI (len := 32) hc 0 d_Mo_init_23 q_80 (by omega) (by decide) rfl (by decide) (by omega) (Nat.le_of_ble_eq_true rfl) (Nat.le_of_ble_eq_true rfl) ?_
  refine fm_putRF (k := 3) (v := 589) hc K_Mo d_Mo_init_25 q_888 rfl (by decide) (by omega) (by decide) (by decide) (by decide) rfl rfl hnm rfl rfl rfl ?_
  refine fm_nm (fun M3 hM3 => ?_)
  refine fm_aload_n hc d_Mo_init_28 rfl rfl ?_
  refine fm_iconst (v := nI 4) hc d_Mo_init_29 rfl ?_
  refine fm_newI (len := 4) hc 0 d_Mo_init_30 q_80 (by omega) (by decide) rfl (by decide) (by omega) (Nat.le_of_ble_eq_true rfl) (Nat.le_of_ble_eq_true rfl) ?_
  refine fm_putRF (k := 5) (v := 590) hc K_Mo d_Mo_init_32 q_890 rfl (by decide) (by omega) (by decide) (by decide) (by decide) rfl rfl hnm rfl rfl rfl ?_
  refine fm_nm (fun M4 hM4 => ?_)
  refine fm_aload_n hc d_Mo_init_35 rfl rfl ?_
  refine fm_iconst (v := nI 4) hc d_Mo_init_36 rfl ?_
  refine fm_newI (len := 4) hc 0 d_Mo_init_37 q_80 (by omega) (by decide) rfl (by decide) (by omega) (Nat.le_of_ble_eq_true rfl) (Nat.le_of_ble_eq_true rfl) ?_
  refine fm_putRF (k := 6) (v := 591) hc K_Mo d_Mo_init_39 q_891 rfl (by decide) (by omega) (by decide) (by decide) (by decide) rfl rfl hnm rfl rfl rfl ?_
  refine fm_nm (fun M5 hM5 => ?_)
  refine fm_aload_n hc d_Mo_init_42 rfl rfl ?_
  refine fm_iconst (v := nI 4) hc d_Mo_init_43 rfl ?_
  refine fm_newI (len := 4) hc 0 d_Mo_init_44 q_80 (by omega) (by decide) rfl (by decide) (by omega) (Nat.le_of_ble_eq_true rfl) (Nat.le_of_ble_eq_true rfl) ?_
  refine fm_putRF (k := 7) (v := 592) hc K_Mo d_Mo_init_46 q_892 rfl (by decide) (by omega) (by decide) (by decide) (by decide) rfl rfl hnm rfl rfl rfl ?_
  refine fm_nm (fun M6 hM6 => ?_)
  refine fm_aload_n hc d_Mo_init_49 rfl rfl ?_
  refine fm_bipush (v := nI 8) hc d_Mo_init_50 rfl ?_
  refine fm_newI (len := 8) hc 0 d_Mo_init_52 q_80 (by omega) (by decide) rfl (by decide) (by omega) (Nat.le_of_ble_eq_true rfl) (Nat.le_of_ble_eq_true rfl) ?_
  refine fm_putRF (k := 8) (v := 593) hc K_Mo d_Mo_init_54 q_893 rfl (by decide) (by omega) (by decide) (by decide) (by decide) rfl rfl hnm rfl rfl rfl ?_
  refine fm_nm (fun M7 hM7 => ?_)
  refine fm_aload_n hc d_Mo_init_57 rfl rfl ?_
  refine fm_sipush (v := nI 128) hc d_Mo_init_58 rfl ?_
  refine fm_newI (len := 128) hc 0 d_Mo_init_61 q_80 (by omega) (by decide) rfl (by decide) (by omega) (Nat.le_of_ble_eq_true rfl) (Nat.le_of_ble_eq_true rfl) ?_
  refine fm_putRF (k := 9) (v := 594) hc K_Mo d_Mo_init_63 q_894 rfl (by decide) (by omega) (by decide) (by decide) (by decide) rfl rfl hnm rfl rfl rfl ?_
  refine fm_nm (fun M8 hM8 => ?_)
  refine fm_aload_n hc d_Mo_init_66 rfl rfl ?_
  refine fm_iconst (v := nI 4) hc d_Mo_init_67 rfl ?_
  refine fm_newZ (len := 4) hc 1 d_Mo_init_68 q_255 (by omega) (by decide) rfl (by decide) (by omega) (Nat.le_of_ble_eq_true rfl) (Nat.le_of_ble_eq_true rfl) ?_
  refine fm_putRF (k := 10) (v := 595) hc K_Mo d_Mo_init_70 q_895 rfl (by decide) (by omega) (by decide) (by decide) (by decide) rfl rfl hnm rfl rfl rfl ?_
  refine fm_nm (fun M9 hM9 => ?_)
  refine fm_aload_n hc d_Mo_init_73 rfl rfl ?_
  refine fm_iconst (v := nI 4) hc d_Mo_init_74 rfl ?_
  refine fm_newI (len := 4) hc 0 d_Mo_init_75 q_80 (by omega) (by decide) rfl (by decide) (by omega) (Nat.le_of_ble_eq_true rfl) (Nat.le_of_ble_eq_true rfl) ?_
  refine fm_putRF (k := 11) (v := 596) hc K_Mo d_Mo_init_77 q_896 rfl (by decide) (by omega) (by decide) (by decide) (by decide) rfl rfl hnm rfl rfl rfl ?_
  refine fm_nm (fun M10 hM10 => ?_)
  refine fm_aload_n hc d_Mo_init_80 rfl rfl ?_
  refine fm_bipush (v := nI 96) hc d_Mo_init_81 rfl ?_
  refine fm_newI (len := 96) hc 0 d_Mo_init_83 q_80 (by omega) (by decide) rfl (by decide) (by omega) (Nat.le_of_ble_eq_true rfl) (Nat.le_of_ble_eq_true rfl) ?_
  refine fm_putRF (k := 12) (v := 597) hc K_Mo d_Mo_init_85 q_897 rfl (by decide) (by omega) (by decide) (by decide) (by decide) rfl rfl hnm rfl rfl rfl ?_
  refine fm_nm (fun M11 hM11 => ?_)
  refine fm_aload_n hc d_Mo_init_88 rfl rfl ?_
  refine fm_bipush (v := nI 96) hc d_Mo_init_89 rfl ?_
  refine fm_newI (len := 96) hc 0 d_Mo_init_91 q_80 (by omega) (by decide) rfl (by decide) (by omega) (Nat.le_of_ble_eq_true rfl) (Nat.le_of_ble_eq_true rfl) ?_
  refine fm_putRF (k := 13) (v := 598) hc K_Mo d_Mo_init_93 q_898 rfl (by decide) (by omega) (by decide) (by decide) (by decide) rfl rfl hnm rfl rfl rfl ?_
  refine fm_nm (fun M12 hM12 => ?_)
  refine fm_aload_n hc d_Mo_init_96 rfl rfl ?_
  refine fm_bipush (v := nI 96) hc d_Mo_init_97 rfl ?_
  refine fm_newI (len := 96) hc 0 d_Mo_init_99 q_80 (by omega) (by decide) rfl (by decide) (by omega) (Nat.le_of_ble_eq_true rfl) (Nat.le_of_ble_eq_true rfl) ?_
  refine fm_putRF (k := 14) (v := 599) hc K_Mo d_Mo_init_101 q_899 rfl (by decide) (by omega) (by decide) (by decide) (by decide) rfl rfl hnm rfl rfl rfl ?_
  refine fm_nm (fun M13 hM13 => ?_)
  refine fm_aload_n hc d_Mo_init_104 rfl rfl ?_
  refine fm_bipush (v := nI 96) hc d_Mo_init_105 rfl ?_
  refine fm_newI (len := 96) hc 0 d_Mo_init_107 q_80 (by omega) (by decide) rfl (by decide) (by omega) (Nat.le_of_ble_eq_true rfl) (Nat.le_of_ble_eq_true rfl) ?_
  refine fm_putRF (k := 15) (v := 600) hc K_Mo d_Mo_init_109 q_900 rfl (by decide) (by omega) (by decide) (by decide) (by decide) rfl rfl hnm rfl rfl rfl ?_
  refine fm_nm (fun M14 hM14 => ?_)
  refine fm_aload_n hc d_Mo_init_112 rfl rfl ?_
  refine fm_bipush (v := nI 96) hc d_Mo_init_113 rfl ?_
  refine fm_newI (len := 96) hc 0 d_Mo_init_115 q_80 (by omega) (by decide) rfl (by decide) (by omega) (Nat.le_of_ble_eq_true rfl) (Nat.le_of_ble_eq_true rfl) ?_
  refine fm_putRF (k := 16) (v := 601) hc K_Mo d_Mo_init_117 q_901 rfl (by decide) (by omega) (by decide) (by decide) (by decide) rfl rfl hnm rfl rfl rfl ?_
  refine fm_nm (fun M15 hM15 => ?_)
  refine fm_aload_n hc d_Mo_init_120 rfl rfl ?_
  refine fm_bipush (v := nI 96) hc d_Mo_init_121 rfl ?_
  refine fm_newI (len := 96) hc 0 d_Mo_init_123 q_80 (by omega) (by decide) rfl (by decide) (by omega) (Nat.le_of_ble_eq_true rfl) (Nat.le_of_ble_eq_true rfl) ?_
  refine fm_putRF (k := 17) (v := 602) hc K_Mo d_Mo_init_125 q_902 rfl (by decide) (by omega) (by decide) (by decide) (by decide) rfl rfl hnm rfl rfl rfl ?_
  refine fm_nm (fun M16 hM16 => ?_)
  refine fm_aload_n hc d_Mo_init_128 rfl rfl ?_
  refine fm_sipush (v := nI 1536) hc d_Mo_init_129 rfl ?_
  refine fm_newI (len := 1536) hc 0 d_Mo_init_132 q_80 (by omega) (by decide) rfl (by decide) (by omega) (Nat.le_of_ble_eq_true rfl) (Nat.le_of_ble_eq_true rfl) ?_
  refine fm_putRF (k := 18) (v := 603) hc K_Mo d_Mo_init_134 q_903 rfl (by decide) (by omega) (by decide) (by decide) (by decide) rfl rfl hnm rfl rfl rfl ?_
  refine fm_nm (fun M17 hM17 => ?_)
  refine fm_aload_n hc d_Mo_init_137 rfl rfl ?_
  refine fm_bipush (v := nI 8) hc d_Mo_init_138 rfl ?_
  refine fm_newZ (len := 8) hc 1 d_Mo_init_140 q_255 (by omega) (by decide) rfl (by decide) (by omega) (Nat.le_of_ble_eq_true rfl) (Nat.le_of_ble_eq_true rfl) ?_
  refine fm_putRF (k := 19) (v := 604) hc K_Mo d_Mo_init_142 q_904 rfl (by decide) (by omega) (by decide) (by decide) (by decide) rfl rfl hnm rfl rfl rfl ?_
  refine fm_nm (fun M18 hM18 => ?_)
  refine fm_aload_n hc d_Mo_init_145 rfl rfl ?_
  refine fm_bipush (v := nI 98) hc d_Mo_init_146 rfl ?_
  refine fm_newI (len := 98) hc 0 d_Mo_init_148 q_80 (by omega) (by decide) rfl (by decide) (by omega) (Nat.le_of_ble_eq_true rfl) (Nat.le_of_ble_eq_true rfl) ?_
  refine fm_putRF (k := 20) (v := 605) hc K_Mo d_Mo_init_150 q_905 rfl (by decide) (by omega) (by decide) (by decide) (by decide) rfl rfl hnm rfl rfl rfl ?_
  refine fm_nm (fun M19 hM19 => ?_)
  refine fm_aload_n hc d_Mo_init_153 rfl rfl ?_
  refine fm_bipush (v := nI 98) hc d_Mo_init_154 rfl ?_
  refine fm_newI (len := 98) hc 0 d_Mo_init_156 q_80 (by omega) (by decide) rfl (by decide) (by omega) (Nat.le_of_ble_eq_true rfl) (Nat.le_of_ble_eq_true rfl) ?_
  refine fm_putRF (k := 21) (v := 606) hc K_Mo d_Mo_init_158 q_906 rfl (by decide) (by omega) (by decide) (by decide) (by decide) rfl rfl hnm rfl rfl rfl ?_
  refine fm_nm (fun M20 hM20 => ?_)
  refine fm_aload_n hc d_Mo_init_161 rfl rfl ?_
  refine fm_bipush (v := nI 98) hc d_Mo_init_162 rfl ?_
  refine fm_newI (len := 98) hc 0 d_Mo_init_164 q_80 (by omega) (by decide) rfl (by decide) (by omega) (Nat.le_of_ble_eq_true rfl) (Nat.le_of_ble_eq_true rfl) ?_
  refine fm_putRF (k := 22) (v := 607) hc K_Mo d_Mo_init_166 q_907 rfl (by decide) (by omega) (by decide) (by decide) (by decide) rfl rfl hnm rfl rfl rfl ?_
  refine fm_nm (fun M21 hM21 => ?_)
  refine fm_aload_n hc d_Mo_init_169 rfl rfl ?_
  refine fm_bipush (v := nI 98) hc d_Mo_init_170 rfl ?_
  refine fm_newI (len := 98) hc 0 d_Mo_init_172 q_80 (by omega) (by decide) rfl (by decide) (by omega) (Nat.le_of_ble_eq_true rfl) (Nat.le_of_ble_eq_true rfl) ?_
  refine fm_putRF (k := 23) (v := 608) hc K_Mo d_Mo_init_174 q_908 rfl (by decide) (by omega) (by decide) (by decide) (by decide) rfl rfl hnm rfl rfl rfl ?_
  refine fm_nm (fun M22 hM22 => ?_)
  refine fm_aload_n hc d_Mo_init_177 rfl rfl ?_
  refine fm_bipush (v := nI 98) hc d_Mo_init_178 rfl ?_
  refine fm_newI (len := 98) hc 0 d_Mo_init_180 q_80 (by omega) (by decide) rfl (by decide) (by omega) (Nat.le_of_ble_eq_true rfl) (Nat.le_of_ble_eq_true rfl) ?_
  refine fm_putRF (k := 24) (v := 609) hc K_Mo d_Mo_init_182 q_909 rfl (by decide) (by omega) (by decide) (by decide) (by decide) rfl rfl hnm rfl rfl rfl ?_
  refine fm_nm (fun M23 hM23 => ?_)
  refine fm_aload_n hc d_Mo_init_185 rfl rfl ?_
  refine fm_bipush (v := nI 98) hc d_Mo_init_186 rfl ?_
  refine fm_newI (len := 98) hc 0 d_Mo_init_188 q_80 (by omega) (by decide) rfl (by decide) (by omega) (Nat.le_of_ble_eq_true rfl) (Nat.le_of_ble_eq_true rfl) ?_
  refine fm_putRF (k := 25) (v := 610) hc K_Mo d_Mo_init_190 q_910 rfl (by decide) (by omega) (by decide) (by decide) (by decide) rfl rfl hnm rfl rfl rfl ?_
  refine fm_nm (fun M24 hM24 => ?_)
  refine fm_aload_n hc d_Mo_init_193 rfl rfl ?_
  refine fm_bipush (v := nI 98) hc d_Mo_init_194 rfl ?_
  refine fm_newZ (len := 98) hc 1 d_Mo_init_196 q_255 (by omega) (by decide) rfl (by decide) (by omega) (Nat.le_of_ble_eq_true rfl) (Nat.le_of_ble_eq_true rfl) ?_
  refine fm_putRF (k := 26) (v := 611) hc K_Mo d_Mo_init_198 q_911 rfl (by decide) (by omega) (by decide) (by decide) (by decide) rfl rfl hnm rfl rfl rfl ?_
  refine fm_nm (fun M25 hM25 => ?_)
  refine fm_aload_n hc d_Mo_init_201 rfl rfl ?_
  refine fm_bipush (v := nI 98) hc d_Mo_init_202 rfl ?_
  refine fm_newI (len := 98) hc 0 d_Mo_init_204 q_80 (by omega) (by decide) rfl (by decide) (by omega) (Nat.le_of_ble_eq_true rfl) (Nat.le_of_ble_eq_true rfl) ?_
  refine fm_putRF (k := 27) (v := 612) hc K_Mo d_Mo_init_206 q_912 rfl (by decide) (by omega) (by decide) (by decide) (by decide) rfl rfl hnm rfl rfl rfl ?_
  refine fm_nm (fun M26 hM26 => ?_)
  refine fm_aload_n hc d_Mo_init_209 rfl rfl ?_
  refine fm_sipush (v := nI 588) hc d_Mo_init_210 rfl ?_
  refine fm_newL (len := 588) hc 3 d_Mo_init_213 q_122 (by omega) (by decide) rfl (by decide) (by omega) (Nat.le_of_ble_eq_true rfl) (Nat.le_of_ble_eq_true rfl) ?_
  refine fm_putRF (k := 28) (v := 613) hc K_Mo d_Mo_init_215 q_913 rfl (by decide) (by omega) (by decide) (by decide) (by decide) rfl rfl hnm rfl rfl rfl ?_
  refine fm_nm (fun M27 hM27 => ?_)
  refine fm_aload_n hc d_Mo_init_218 rfl rfl ?_
  refine fm_bipush (v := nI 98) hc d_Mo_init_219 rfl ?_
  refine fm_newI (len := 98) hc 0 d_Mo_init_221 q_80 (by omega) (by decide) rfl (by decide) (by omega) (Nat.le_of_ble_eq_true rfl) (Nat.le_of_ble_eq_true rfl) ?_
  refine fm_putRF (k := 29) (v := 614) hc K_Mo d_Mo_init_223 q_914 rfl (by decide) (by omega) (by decide) (by decide) (by decide) rfl rfl hnm rfl rfl rfl ?_
  refine fm_nm (fun M28 hM28 => ?_)
  refine fm_aload_n hc d_Mo_init_226 rfl rfl ?_
  refine fm_sipush (v := nI 882) hc d_Mo_init_227 rfl ?_
  refine fm_newL (len := 882) hc 3 d_Mo_init_230 q_122 (by omega) (by decide) rfl (by decide) (by omega) (Nat.le_of_ble_eq_true rfl) (Nat.le_of_ble_eq_true rfl) ?_
  refine fm_putRF (k := 30) (v := 615) hc K_Mo d_Mo_init_232 q_915 rfl (by decide) (by omega) (by decide) (by decide) (by decide) rfl rfl hnm rfl rfl rfl ?_
  refine fm_nm (fun M29 hM29 => ?_)
  refine fm_aload_n hc d_Mo_init_235 rfl rfl ?_
  refine fm_sipush (v := nI 882) hc d_Mo_init_236 rfl ?_
  refine fm_newL (len := 882) hc 3 d_Mo_init_239 q_122 (by omega) (by decide) rfl (by decide) (by omega) (Nat.le_of_ble_eq_true rfl) (Nat.le_of_ble_eq_true rfl) ?_
  refine fm_putRF (k := 31) (v := 616) hc K_Mo d_Mo_init_241 q_916 rfl (by decide) (by omega) (by decide) (by decide) (by decide) rfl rfl hnm rfl rfl rfl ?_
  refine fm_nm (fun M30 hM30 => ?_)
  refine fm_aload_n hc d_Mo_init_244 rfl rfl ?_
  refine fm_bipush (v := nI 9) hc d_Mo_init_245 rfl ?_
  refine fm_newI (len := 9) hc 0 d_Mo_init_247 q_80 (by omega) (by decide) rfl (by decide) (by omega) (Nat.le_of_ble_eq_true rfl) (Nat.le_of_ble_eq_true rfl) ?_
  refine fm_putRF (k := 33) (v := 617) hc K_Mo d_Mo_init_249 q_918 rfl (by decide) (by omega) (by decide) (by decide) (by decide) rfl rfl hnm rfl rfl rfl ?_
  refine fm_nm (fun M31 hM31 => ?_)
  refine fm_aload_n hc d_Mo_init_252 rfl rfl ?_
  refine fm_bipush (v := nI 9) hc d_Mo_init_253 rfl ?_
  refine fm_newI (len := 9) hc 0 d_Mo_init_255 q_80 (by omega) (by decide) rfl (by decide) (by omega) (Nat.le_of_ble_eq_true rfl) (Nat.le_of_ble_eq_true rfl) ?_
  refine fm_putRF (k := 34) (v := 618) hc K_Mo d_Mo_init_257 q_919 rfl (by decide) (by omega) (by decide) (by decide) (by decide) rfl rfl hnm rfl rfl rfl ?_
  refine fm_nm (fun M32 hM32 => ?_)
  refine fm_aload_n hc d_Mo_init_260 rfl rfl ?_
  refine fm_bipush (v := nI 9) hc d_Mo_init_261 rfl ?_
  refine fm_newL (len := 9) hc 3 d_Mo_init_263 q_122 (by omega) (by decide) rfl (by decide) (by omega) (Nat.le_of_ble_eq_true rfl) (Nat.le_of_ble_eq_true rfl) ?_
  refine fm_putRF (k := 35) (v := 619) hc K_Mo d_Mo_init_265 q_920 rfl (by decide) (by omega) (by decide) (by decide) (by decide) rfl rfl hnm rfl rfl rfl ?_
  refine fm_nm (fun M33 hM33 => ?_)
  refine fm_aload_n hc d_Mo_init_268 rfl rfl ?_
  refine fm_bipush (v := nI 9) hc d_Mo_init_269 rfl ?_
  refine fm_newL (len := 9) hc 3 d_Mo_init_271 q_122 (by omega) (by decide) rfl (by decide) (by omega) (Nat.le_of_ble_eq_true rfl) (Nat.le_of_ble_eq_true rfl) ?_
  refine fm_putRF (k := 36) (v := 620) hc K_Mo d_Mo_init_273 q_921 rfl (by decide) (by omega) (by decide) (by decide) (by decide) rfl rfl hnm rfl rfl rfl ?_
  refine fm_nm (fun M34 hM34 => ?_)
  refine fm_aload_n hc d_Mo_init_276 rfl rfl ?_
  refine fm_bipush (v := nI 21) hc d_Mo_init_277 rfl ?_
  refine fm_newZ (len := 21) hc 1 d_Mo_init_279 q_255 (by omega) (by decide) rfl (by decide) (by omega) (Nat.le_of_ble_eq_true rfl) (Nat.le_of_ble_eq_true rfl) ?_
  refine fm_putRF (k := 38) (v := 621) hc K_Mo d_Mo_init_281 q_923 rfl (by decide) (by omega) (by decide) (by decide) (by decide) rfl rfl hnm rfl rfl rfl ?_
  refine fm_nm (fun M35 hM35 => ?_)
  refine fm_aload_n hc d_Mo_init_284 rfl rfl ?_
  refine fm_bipush (v := nI 21) hc d_Mo_init_285 rfl ?_
  refine fm_newI (len := 21) hc 0 d_Mo_init_287 q_80 (by omega) (by decide) rfl (by decide) (by omega) (Nat.le_of_ble_eq_true rfl) (Nat.le_of_ble_eq_true rfl) ?_
  refine fm_putRF (k := 39) (v := 622) hc K_Mo d_Mo_init_289 q_924 rfl (by decide) (by omega) (by decide) (by decide) (by decide) rfl rfl hnm rfl rfl rfl ?_
  refine fm_nm (fun M36 hM36 => ?_)
  refine fm_aload_n hc d_Mo_init_292 rfl rfl ?_
  refine fm_bipush (v := nI 21) hc d_Mo_init_293 rfl ?_
  refine fm_newI (len := 21) hc 0 d_Mo_init_295 q_80 (by omega) (by decide) rfl (by decide) (by omega) (Nat.le_of_ble_eq_true rfl) (Nat.le_of_ble_eq_true rfl) ?_
  refine fm_putRF (k := 40) (v := 623) hc K_Mo d_Mo_init_297 q_925 rfl (by decide) (by omega) (by decide) (by decide) (by decide) rfl rfl hnm rfl rfl rfl ?_
  refine fm_nm (fun M37 hM37 => ?_)
  refine fm_aload_n hc d_Mo_init_300 rfl rfl ?_
  refine fm_bipush (v := nI 21) hc d_Mo_init_301 rfl ?_
  refine fm_newI (len := 21) hc 0 d_Mo_init_303 q_80 (by omega) (by decide) rfl (by decide) (by omega) (Nat.le_of_ble_eq_true rfl) (Nat.le_of_ble_eq_true rfl) ?_
  refine fm_putRF (k := 41) (v := 624) hc K_Mo d_Mo_init_305 q_926 rfl (by decide) (by omega) (by decide) (by decide) (by decide) rfl rfl hnm rfl rfl rfl ?_
  refine fm_nm (fun M38 hM38 => ?_)
  refine fm_aload_n hc d_Mo_init_308 rfl rfl ?_
  refine fm_bipush (v := nI 21) hc d_Mo_init_309 rfl ?_
  refine fm_newI (len := 21) hc 0 d_Mo_init_311 q_80 (by omega) (by decide) rfl (by decide) (by omega) (Nat.le_of_ble_eq_true rfl) (Nat.le_of_ble_eq_true rfl) ?_
  refine fm_putRF (k := 42) (v := 625) hc K_Mo d_Mo_init_313 q_927 rfl (by decide) (by omega) (by decide) (by decide) (by decide) rfl rfl hnm rfl rfl rfl ?_
  refine fm_nm (fun M39 hM39 => ?_)
  refine fm_aload_n hc d_Mo_init_316 rfl rfl ?_
  refine fm_bipush (v := nI 21) hc d_Mo_init_317 rfl ?_
  refine fm_newI (len := 21) hc 0 d_Mo_init_319 q_80 (by omega) (by decide) rfl (by decide) (by omega) (Nat.le_of_ble_eq_true rfl) (Nat.le_of_ble_eq_true rfl) ?_
  refine fm_putRF (k := 43) (v := 626) hc K_Mo d_Mo_init_321 q_928 rfl (by decide) (by omega) (by decide) (by decide) (by decide) rfl rfl hnm rfl rfl rfl ?_
  refine fm_nm (fun M40 hM40 => ?_)
  refine fm_aload_n hc d_Mo_init_324 rfl rfl ?_
  refine fm_sipush (v := nI 2688) hc d_Mo_init_325 rfl ?_
  refine fm_newI (len := 2688) hc 0 d_Mo_init_328 q_80 (by omega) (by decide) rfl (by decide) (by omega) (Nat.le_of_ble_eq_true rfl) (Nat.le_of_ble_eq_true rfl) ?_
  refine fm_putRF (k := 44) (v := 627) hc K_Mo d_Mo_init_330 q_929 rfl (by decide) (by omega) (by decide) (by decide) (by decide) rfl rfl hnm rfl rfl rfl ?_
  refine fm_nm (fun M41 hM41 => ?_)
  refine fm_aload_n hc d_Mo_init_333 rfl rfl ?_
  refine fm_bipush (v := nI 16) hc d_Mo_init_334 rfl ?_
  refine fm_newI (len := 16) hc 0 d_Mo_init_336 q_80 (by omega) (by decide) rfl (by decide) (by omega) (Nat.le_of_ble_eq_true rfl) (Nat.le_of_ble_eq_true rfl) ?_
  refine fm_putRF (k := 49) (v := 628) hc K_Mo d_Mo_init_338 q_934 rfl (by decide) (by omega) (by decide) (by decide) (by decide) rfl rfl hnm rfl rfl rfl ?_
  refine fm_nm (fun M42 hM42 => ?_)
  refine fm_iconst (v := nI 0) hc d_Mo_init_341 rfl ?_
  refine fm_istore_n (lv' := [(1, .int (nI 0)), (0, .ref 586)]) hc d_Mo_init_342 rfl (by decide) rfl ?_
  exact fm_mem (M' := m_MoU fm_M1 0) rfl (by subst hM42; subst hM41; subst hM40; subst hM39; subst hM38; subst hM37; subst hM36; subst hM35; subst hM34; subst hM33; subst hM32; subst hM31; subst hM30; subst hM29; subst hM28; subst hM27; subst hM26; subst hM25; subst hM24; subst hM23; subst hM22; subst hM21; subst hM20; subst hM19; subst hM18; subst hM17; subst hM16; subst hM15; subst hM14; subst hM13; subst hM12; subst hM11; subst hM10; subst hM9; subst hM8; subst hM7; subst hM6; subst hM5; subst hM4; subst hM3; subst hM2; subst hM1; rfl) (loop343 4 0 rfl)
