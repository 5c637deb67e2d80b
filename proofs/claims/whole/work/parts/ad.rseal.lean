/-! THE REFERENCE: seal; write entire -/
def hr_L (M : fm_M) (C : Nat → Nat) (W : Nat → Nat → Int32) : Prop := ∀ a, a < 8 → C a ≤ 16 ∧ M.1 593 a = nI (C a) ∧ ∀ i, i < C a → M.1 594 (16 * a + i) = W a i
def fz_R (j : Nat) (M M' : fm_M) : Prop := M'.2.2 = M.2.2 ∧ (∀ i, i = 4 ∨ i = 0 → M'.1 586 i = M.1 586 i) ∧ (∀ q, 587 ≤ q → q ≤ 595 → q ≠ 593 → q ≠ 594 → M'.1 q = M.1 q) ∧ (∀ i, i ≠ j → M'.1 596 i = M.1 596 i) ∧ (∀ b1 m, (24 * j + 24 ≤ b1 ∨ b1 + 8 ≤ 24 * j) → am_wfs m → hr_M M b1 m → hr_M M' b1 m) ∧ (∀ q, (q < 586 ∨ 628 < q) → M'.1 q = M.1 q ∧ M'.2.1 q = M.2.1 q)
theorem fzR_tr {j : Nat} {M M1 M2 : fm_M} (h : fz_R j M M1) (g : fz_R j M1 M2) : fz_R j M M2 := ⟨g.1.trans h.1, fun i e => (g.2.1 i e).trans (h.2.1 i e), fun q a b c d => (g.2.2.1 q a b c d).trans (h.2.2.1 q a b c d), fun i a => (g.2.2.2.1 i a).trans (h.2.2.2.1 i a), fun b1 m a c d => g.2.2.2.2.1 b1 m a c (h.2.2.2.2.1 b1 m a c d), fun q a => ⟨(g.2.2.2.2.2 q a).1.trans (h.2.2.2.2.2 q a).1, (g.2.2.2.2.2 q a).2.trans (h.2.2.2.2.2 q a).2⟩⟩
theorem fzR_k {j b0 : Nat} {M M' : fm_M} (hb : 24 * j ≤ b0 ∧ b0 + 8 ≤ 24 * j + 24) (f : fk_R b0 M M') : fz_R j M M' := ⟨f.1, f.2.1, fun q a b _ _ => f.2.2.1 q a (by omega), fun i _ => by rw [f.2.2.1 596 (by decide) (by decide)], fun b1 m a c d => f.2.2.2.1 b1 m (by omega) c d, f.2.2.2.2⟩
theorem hrM_ow {b0 a : Nat} {M : fm_M} {v : Int32} {m : am_T} {O : Nat → Int32} (h : hr_M M b0 (am_ow m O)) : hr_M (fm_put1 M 600 (b0 + a) v) b0 (am_ow m (va_up O a v)) := by
  obtain ⟨S, K, O', T, G, H, V, D⟩ := m
  obtain ⟨h1, h2, h3, h4, h5, h6, h7, h8, h9⟩ := h
  refine ⟨fun a ha => (p1_other (by omega)).trans (h1 a ha), fun a ha hs => (p1_other (by omega)).trans (h2 a ha hs), fun a ha => (p1_other (by omega)).trans (h3 a ha), fun c hc => ?_, fun a ha => (p1_other (by omega)).trans (h5 a ha), fun a ha => (p1_other (by omega)).trans (h6 a ha), fun a i ha hi => (p1_other (by omega)).trans (h7 a i ha hi), fun a ha => by rw [p1_other (by omega)]; exact h8 a ha, fun c hc hs => ?_⟩
  · by_cases g : c = a
    · subst g
      rw [p1_same]
      exact fm_upS.symm
    · rw [p1_at (by omega)]
      exact (h4 c hc).trans (fm_upN g).symm
  · obtain ⟨g, hg⟩ := h9 c hc hs
    exact ⟨g, hrG_o1 (Or.inl (by omega)) hg⟩
theorem rc_seal {l : Launch} {b : Nat} {x : Nat → Nat} {D : va_G} {dA : Nat → ClassId} {j n : Nat} {m0 s0 : am_T} {ms : List mg_T} {C : Nat → Nat} {W : Nat → Nat → Int32} {M : fm_M} (hn : 629 ≤ n) (hR : fm_RP M) (hj : j < 4) (h : hr_M M (24 * j) m0) (g : hr_M M (24 * j + 8) s0) (hma : am_wfs m0) (hsa : am_wfs s0) (hw : hr_W M ms) (hl : hr_L M C W) (hD : ∀ a, a < 8 → s0.2.2.2.2.2.2.2 a ≤ 16) (hO : ∀ a, a < 8 → s0.2.2.1 a = -1 ∨ ¬ s0.2.2.1 a < 0) : Met l y_Mo_seal (Cond.code y_Mo_seal b_Mo_seal 7 none :: fm_T0) ({ frames := 3, cells := 0, slots := 0, locals := 120 }) (fm_Pc fm_lay fm_nf fm_fk fm_cl b x D dA (fm_tys dA) (fm_EX b x) false [.ref 586, .int (nI j)] n M) (fm_Qc fm_lay fm_nf fm_fk fm_cl b x D dA (fun r n' M' => r = none ∧ n' = n ∧ hr_M M' (24 * j) (am_ow m0 (sl_O s0 m0 8)) ∧ hr_M M' (24 * j + 16) s0 ∧ hr_W M' (sl_W j s0 ms 8) ∧ hr_L M' (sr_C C s0.2.2.2.2.2.2.2) (sr_W C W s0.2.2.2.2.2.2.1) ∧ fz_R j M M' ∧ M'.1 596 j = M.1 596 j)) 0 0 (fm_A b) := by
  refine fm_enter (by decide) (Nat.le_of_ble_eq_true rfl) ?_
  intro p e s m args below meth c9 hc hr hnm hex htg
  refine fm_aload_n hc d_Mo_seal_0 rfl rfl ?_
  refine fm_iconst (v := nI 3) hc d_Mo_seal_1 rfl ?_
  refine fm_iload_n hc d_Mo_seal_2 rfl rfl ?_
  refine fm_imul hc d_Mo_seal_3 ?_
  refine fm_top (congrArg Value.int (pk_mul 3 j)) ?_
  refine fm_iconst (v := nI 1) hc d_Mo_seal_4 rfl ?_
  refine fm_iadd hc d_Mo_seal_5 ?_
  refine fm_top (congrArg Value.int (nI_add (3 * j) 1)) ?_
  refine fm_iconst (v := nI 3) hc d_Mo_seal_6 rfl ?_
  refine fm_iload_n hc d_Mo_seal_7 rfl rfl ?_
  refine fm_imul hc d_Mo_seal_8 ?_
  refine fm_top (congrArg Value.int (pk_mul 3 j)) ?_
  refine fm_iconst (v := nI 2) hc d_Mo_seal_9 rfl ?_
  refine fm_iadd hc d_Mo_seal_10 ?_
  refine fm_top (congrArg Value.int (nI_add (3 * j) 2)) ?_
  refine fm_callV (av := [.int (nI ((3 * j) + 1)), .int (nI ((3 * j) + 2))]) (rest := []) (ob := 586) (ci := 11) (r0 := ("AgentNetModel", F_Mo, 51)) (y := y_Mo_moveMemory) (bytes := b_Mo_moveMemory) hc fm_T0_good (fm_EX_st b x) hex q_1198 q_13 q_1195 q_1197 qs_Mo_moveMemory pd_Mo_moveMemory (by decide) (by omega) (by decide) (by decide) rfl rfl (rc_moveM (u := 3 * j + 1) (v := 3 * j + 2) (m0 := s0) hn hR (by omega) (by omega) (by omega) (by rw [show 8 * (3 * j + 1) = 24 * j + 8 by omega]; exact g) hsa) ⟨rfl, rfl, Nat.le_of_ble_eq_true rfl, Nat.le_of_ble_eq_true rfl⟩ ⟨Nat.le_of_ble_eq_true rfl, Nat.le_of_ble_eq_true rfl⟩ d_Mo_seal_11 (Nat.le_of_ble_eq_true rfl) (fun r n2 M2 hp => ?_)
  obtain ⟨rfl, hq1, r1, r2⟩ := hp
  replace hq1 := hq1.symm
  subst hq1
  revert r1 r2
  generalize M2 = Ma
  intro r1 r2
  rw [show 8 * (3 * j + 2) = 24 * j + 16 by omega] at r1 r2
  have hRa : fm_RP Ma := frR_RP r2 hR
  refine fm_cnt (z' := (0, 0)) rfl (fm_st (st' := []) rfl ?_)
  refine fm_bipush (v := nI 24) hc d_Mo_seal_14 rfl ?_
  refine fm_iload_n hc d_Mo_seal_16 rfl rfl ?_
  refine fm_imul hc d_Mo_seal_17 ?_
  refine fm_top (congrArg Value.int (pk_mul 24 j)) ?_
  refine fm_bipush (v := nI 16) hc d_Mo_seal_18 rfl ?_
  refine fm_iadd hc d_Mo_seal_20 ?_
  refine fm_top (congrArg Value.int (nI_add (24 * j) 16)) ?_
  refine fm_istore_n (lv' := [(2, .int (nI ((24 * j) + 16))), (0, .ref 586), (1, .int (nI j))]) hc d_Mo_seal_21 rfl (by decide) rfl ?_
  refine fm_iconst (v := nI 0) hc d_Mo_seal_22 rfl ?_
  refine fm_istore_n (lv' := [(3, .int (nI 0)), (2, .int (nI ((24 * j) + 16))), (0, .ref 586), (1, .int (nI j))]) hc d_Mo_seal_23 rfl (by decide) rfl ?_
  have ka : fk_R (24 * j + 16) M Ma := fkR_R (by omega) r2
  have ha : hr_M Ma (24 * j) m0 := ka.2.2.2.1 _ _ (by omega) hma h
  have wa : hr_W Ma ms := hrW_R r2 hw
  have la : hr_L Ma C W := fun a ha => by
    rw [ka.2.2.1 593 (by decide) (by decide), ka.2.2.1 594 (by decide) (by decide)]
    exact hl a ha
  obtain ⟨S2, K2, O2, T2, G2, H2, V2, D2⟩ := s0
  refine fm_loopI (N := 8) (lv := fun k => [(3, .int (nI k)), (2, .int (nI ((24 * j) + 16))), (0, .ref 586), (1, .int (nI j))]) (I := fun k M' => (∀ a, a < 8 → M'.1 593 a = nI (if a < k then sr_C C D2 a else C a) ∧ ∀ i, i < (if a < k then sr_C C D2 a else C a) → M'.1 594 (16 * a + i) = sr_W C W V2 a i) ∧ M'.2 = Ma.2 ∧ ∀ q i, q ≠ 593 → q ≠ 594 → M'.1 q i = Ma.1 q i) (fun k Mk hk hI ih => ?_) (fun Mk hI => ?_) ⟨fun a ha => by rw [if_neg (Nat.not_lt_zero a)]; exact ⟨(la a ha).2.1, fun i hi => by unfold sr_W; rw [if_pos hi]; exact (la a ha).2.2 i hi⟩, rfl, fun _ _ _ _ => rfl⟩
  · obtain ⟨i1, i2, i3⟩ := hI
    have hRk : fm_RP Mk := fun q hq => by rw [i2]; exact hRa q hq
    have hc16 := (la k hk).1
    have hd16 : D2 k ≤ 16 := hD k hk
    obtain ⟨e1, e2⟩ := i1 k hk
    rw [if_neg (Nat.lt_irrefl k)] at e1 e2
    refine fm_iload_n hc d_Mo_seal_24 rfl rfl ?_
    refine fm_bipush (v := nI 8) hc d_Mo_seal_25 rfl ?_
    refine fm_icmp_ge (tgt := 99) hc d_Mo_seal_27 rfl (fun gQ => absurd gQ (hnle (a := 8) (c := k) hk (by omega))) (fun _ => ?_)
    refine fm_aload_n hc d_Mo_seal_30 rfl rfl ?_
    refine fm_getR (k := 8) (q := 593) hc K_Mo d_Mo_seal_31 q_893 rfl (by decide) (by omega) (by decide) (by decide) (by decide) rfl (rp_count hRk) ?_
    refine fm_iload_n hc d_Mo_seal_34 rfl rfl ?_
    refine fm_iald (j := k) (len := 8) hc 0 d_Mo_seal_35 (by decide) (by omega) (by decide) rfl (by omega) (by decide) ?_
    refine fm_top (congrArg Value.int (show Mk.1 593 k = nI (C k) from e1)) ?_
    refine fm_istore (lv' := [(4, .int (nI (C k))), (3, .int (nI k)), (2, .int (nI ((24 * j) + 16))), (0, .ref 586), (1, .int (nI j))]) hc d_Mo_seal_36 (by decide) rfl ?_
    refine fm_dropl (lv' := [(4, .int (nI (C k + 0))), (3, .int (nI k)), (2, .int (nI ((24 * j) + 16))), (0, .ref 586), (1, .int (nI j))]) (by simp) ?_
    refine fm_loopI (N := D2 k - C k) (lv := fun i => [(4, .int (nI (C k + i))), (3, .int (nI k)), (2, .int (nI ((24 * j) + 16))), (0, .ref 586), (1, .int (nI j))]) (I := fun i M' => M'.1 593 k = nI (C k + i) ∧ (∀ c, c < C k + i → M'.1 594 (16 * k + c) = sr_W C W V2 k c) ∧ M'.2 = Ma.2 ∧ ∀ q c, ¬ (q = 593 ∧ c = k) → ¬ (q = 594 ∧ 16 * k ≤ c ∧ c < 16 * k + 16) → M'.1 q c = Mk.1 q c) (fun i Mi hi hI ihi => ?_) (fun Mi hI => ?_) ⟨e1, e2, i2, fun _ _ _ _ => rfl⟩
    · obtain ⟨j1, j2, j3, j4⟩ := hI
      have hRi : fm_RP Mi := fun q hq => by rw [j3]; exact hRa q hq
      have eT : Mi.1 602 (24 * j + 16 + k) = nI (D2 k) := by rw [j4 _ _ (by omega) (by omega), i3 _ _ (by decide) (by decide)]; exact r1.2.2.2.2.2.1 k hk
      have eV : Mi.1 603 (16 * (24 * j + 16 + k) + (C k + i)) = V2 k (C k + i) := by rw [j4 _ _ (by omega) (by omega), i3 _ _ (by decide) (by decide)]; exact r1.2.2.2.2.2.2.1 k (C k + i) hk (by omega)
      refine fm_iload hc d_Mo_seal_38 rfl ?_
      refine fm_aload_n hc d_Mo_seal_40 rfl rfl ?_
      refine fm_getR (k := 17) (q := 602) hc K_Mo d_Mo_seal_41 q_902 rfl (by decide) (by omega) (by decide) (by decide) (by decide) rfl (rp_told hRi) ?_
      refine fm_iload_n hc d_Mo_seal_44 rfl rfl ?_
      refine fm_iload_n hc d_Mo_seal_45 rfl rfl ?_
      refine fm_iadd hc d_Mo_seal_46 ?_
      refine fm_top (congrArg Value.int (nI_add ((24 * j) + 16) k)) ?_
      refine fm_iald (j := ((24 * j) + 16) + k) (len := 96) hc 0 d_Mo_seal_47 (by decide) (by omega) (by decide) rfl (by omega) (by decide) ?_
      refine fm_top (congrArg Value.int (show Mi.1 602 (((24 * j) + 16) + k) = nI (D2 k) from eT)) ?_
      refine fm_icmp_ge (tgt := 93) hc d_Mo_seal_48 rfl (fun gQ => absurd gQ (hnle (a := D2 k) (c := C k + i) (by omega) (by omega))) (fun _ => ?_)
      refine fm_aload_n hc d_Mo_seal_51 rfl rfl ?_
      refine fm_getR (k := 9) (q := 594) hc K_Mo d_Mo_seal_52 q_894 rfl (by decide) (by omega) (by decide) (by decide) (by decide) rfl (rp_freed hRi) ?_
      refine fm_bipush (v := nI 16) hc d_Mo_seal_55 rfl ?_
      refine fm_iload_n hc d_Mo_seal_57 rfl rfl ?_
      refine fm_imul hc d_Mo_seal_58 ?_
      refine fm_top (congrArg Value.int (pk_mul 16 k)) ?_
      refine fm_iload hc d_Mo_seal_59 rfl ?_
      refine fm_iadd hc d_Mo_seal_61 ?_
      refine fm_top (congrArg Value.int (nI_add (16 * k) (C k + i))) ?_
      refine fm_aload_n hc d_Mo_seal_62 rfl rfl ?_
      refine fm_getR (k := 18) (q := 603) hc K_Mo d_Mo_seal_63 q_903 rfl (by decide) (by omega) (by decide) (by decide) (by decide) rfl (rp_words hRi) ?_
      refine fm_bipush (v := nI 16) hc d_Mo_seal_66 rfl ?_
      refine fm_iload_n hc d_Mo_seal_68 rfl rfl ?_
      refine fm_iload_n hc d_Mo_seal_69 rfl rfl ?_
      refine fm_iadd hc d_Mo_seal_70 ?_
      refine fm_top (congrArg Value.int (nI_add ((24 * j) + 16) k)) ?_
      refine fm_imul hc d_Mo_seal_71 ?_
      refine fm_top (congrArg Value.int (pk_mul 16 (((24 * j) + 16) + k))) ?_
      refine fm_iload hc d_Mo_seal_72 rfl ?_
      refine fm_iadd hc d_Mo_seal_74 ?_
      refine fm_top (congrArg Value.int (nI_add (16 * (((24 * j) + 16) + k)) (C k + i))) ?_
      refine fm_iald (j := (16 * (((24 * j) + 16) + k)) + (C k + i)) (len := 1536) hc 0 d_Mo_seal_75 (by decide) (by omega) (by decide) rfl (by omega) (by decide) ?_
      refine fm_top (congrArg Value.int (show Mi.1 603 ((16 * (((24 * j) + 16) + k)) + (C k + i)) = V2 k (C k + i) from eV)) ?_
      refine fm_iast (j := (16 * k) + (C k + i)) (len := 128) (v := V2 k (C k + i)) hc 0 d_Mo_seal_76 (by decide) (by omega) (by decide) rfl (by omega) (by decide) ?_
      refine fm_aload_n hc d_Mo_seal_77 rfl rfl ?_
      refine fm_getR (k := 8) (q := 593) hc K_Mo d_Mo_seal_78 q_893 rfl (by decide) (by omega) (by decide) (by decide) (by decide) rfl (rp_count hRi) ?_
      refine fm_iload_n hc d_Mo_seal_81 rfl rfl ?_
      refine fm_dup2_11 hc d_Mo_seal_82 rfl rfl ?_
      refine fm_iald (j := k) (len := 8) hc 0 d_Mo_seal_83 (by decide) (by omega) (by decide) rfl (by omega) (by decide) ?_
      refine fm_top (congrArg Value.int (show (fm_put1 Mi 594 ((16 * k) + (C k + i)) (V2 k (C k + i))).1 593 k = nI (C k + i) from ((p1_other (by decide)).trans j1))) ?_
      refine fm_iconst (v := nI 1) hc d_Mo_seal_84 rfl ?_
      refine fm_iadd hc d_Mo_seal_85 ?_
      refine fm_top (congrArg Value.int (nI_add (C k + i) 1)) ?_
      refine fm_iast (j := k) (len := 8) (v := nI ((C k + i) + 1)) hc 0 d_Mo_seal_86 (by decide) (by omega) (by decide) rfl (by omega) (by decide) ?_
      refine fm_iinc (v := nI (C k + i + 1)) (lv' := [(4, .int (nI (C k + i + 1))), (3, .int (nI k)), (2, .int (nI ((24 * j) + 16))), (0, .ref 586), (1, .int (nI j))]) hc d_Mo_seal_87 rfl (nI_1 (C k + i)) (by decide) rfl ?_
      refine fm_goto (tgt := 38) hc d_Mo_seal_90 rfl ?_
      refine fm_dropl (lv' := [(4, .int (nI (C k + (i + 1)))), (3, .int (nI k)), (2, .int (nI ((24 * j) + 16))), (0, .ref 586), (1, .int (nI j))]) (by simp [Nat.add_assoc]) ?_
      refine ihi _ ⟨p1_same _ _ _ _, fun c hc => (p1_other (by decide)).trans ?_, j3, fun q c a b => ?_⟩
      · by_cases e : c = C k + i
        · subst e
          rw [p1_same]
          unfold sr_W
          rw [if_neg (by omega)]
        · rw [p1_at (by omega)]
          exact j2 c (by omega)
      · have z1 : ∀ Mx : fm_M, ∀ v, (fm_put1 Mx 593 k v).1 q c = Mx.1 q c := fun Mx v => by
          by_cases e : q = 593
          · subst e; exact p1_at (by omega)
          · exact p1_other e
        rw [z1]
        by_cases e : q = 594
        · subst e; exact (p1_at (by omega)).trans (j4 _ _ a b)
        · exact (p1_other e).trans (j4 _ _ a b)
    · obtain ⟨j1, j2, j3, j4⟩ := hI
      have eC : C k + (D2 k - C k) = sr_C C D2 k := by unfold sr_C; split <;> omega
      rw [eC] at j1 j2
      have hRi : fm_RP Mi := fun q hq => by rw [j3]; exact hRa q hq
      have eT : Mi.1 602 (24 * j + 16 + k) = nI (D2 k) := by rw [j4 _ _ (by omega) (by omega), i3 _ _ (by decide) (by decide)]; exact r1.2.2.2.2.2.1 k hk
      have fin : (∀ a, a < 8 → Mi.1 593 a = nI (if a < (k + 1) then sr_C C D2 a else C a) ∧ ∀ i, i < (if a < (k + 1) then sr_C C D2 a else C a) → Mi.1 594 (16 * a + i) = sr_W C W V2 a i) ∧ Mi.2 = Ma.2 ∧ ∀ q i, q ≠ 593 → q ≠ 594 → Mi.1 q i = Ma.1 q i := by
        refine ⟨fun a ha => ?_, j3, fun q i a b => (j4 q i (by omega) (by omega)).trans (i3 q i a b)⟩
        by_cases e : a = k
        · subst e
          rw [if_pos (Nat.lt_succ_self a)]
          exact ⟨j1, j2⟩
        · have e2 : (if a < k + 1 then sr_C C D2 a else C a) = (if a < k then sr_C C D2 a else C a) := by
            by_cases q : a < k
            · rw [if_pos q, if_pos (by omega)]
            · rw [if_neg q, if_neg (by omega)]
          rw [e2]
          have t1 := (la a ha).1
          have t2 : D2 a ≤ 16 := hD a ha
          have hC16 : (if a < k then sr_C C D2 a else C a) ≤ 16 := by
            unfold sr_C
            split
            · split <;> omega
            · omega
          exact ⟨(j4 _ _ (by omega) (by omega)).trans (i1 a ha).1, fun i hi => (j4 _ _ (by omega) (by omega)).trans ((i1 a ha).2 i hi)⟩
      refine fm_iload hc d_Mo_seal_38 rfl ?_
      refine fm_aload_n hc d_Mo_seal_40 rfl rfl ?_
      refine fm_getR (k := 17) (q := 602) hc K_Mo d_Mo_seal_41 q_902 rfl (by decide) (by omega) (by decide) (by decide) (by decide) rfl (rp_told hRi) ?_
      refine fm_iload_n hc d_Mo_seal_44 rfl rfl ?_
      refine fm_iload_n hc d_Mo_seal_45 rfl rfl ?_
      refine fm_iadd hc d_Mo_seal_46 ?_
      refine fm_top (congrArg Value.int (nI_add ((24 * j) + 16) k)) ?_
      refine fm_iald (j := ((24 * j) + 16) + k) (len := 96) hc 0 d_Mo_seal_47 (by decide) (by omega) (by decide) rfl (by omega) (by decide) ?_
      refine fm_top (congrArg Value.int (show Mi.1 602 (((24 * j) + 16) + k) = nI (D2 k) from eT)) ?_
      refine fm_icmp_ge (tgt := 93) hc d_Mo_seal_48 rfl (fun _ => ?_) (fun gQ => absurd (nI_le (by omega) (by omega)) gQ)
      refine fm_iinc (v := nI (k + 1)) (lv' := [(3, .int (nI (k + 1))), (4, .int (nI (C k + (D2 k - C k)))), (2, .int (nI ((24 * j) + 16))), (0, .ref 586), (1, .int (nI j))]) hc d_Mo_seal_93 rfl (nI_1 k) (by decide) rfl ?_
      refine fm_goto (tgt := 24) hc d_Mo_seal_96 rfl ?_
      refine fm_dropl (lv' := [(3, .int (nI (k + 1))), (2, .int (nI ((24 * j) + 16))), (0, .ref 586), (1, .int (nI j))]) (by simp) ?_
      exact ih _ fin
  · obtain ⟨i1, i2, i3⟩ := hI
    have hRk : fm_RP Mk := fun q hq => by rw [i2]; exact hRa q hq
    have hk1 : hr_M Mk (24 * j) m0 := hrM_eq (fun q i a b => i3 q i (by omega) (by omega)) (by rw [i2]) ha
    have hk2 : hr_M Mk (24 * j + 16) (S2, K2, O2, T2, G2, H2, V2, D2) := hrM_eq (fun q i a b => i3 q i (by omega) (by omega)) (by rw [i2]) r1
    have hkw : hr_W Mk ms := hrW_of (fun q i a b => i3 q i (by omega) (by omega)) (i3 _ _ (by decide) (by decide)) wa
    have hkl : hr_L Mk (sr_C C D2) (sr_W C W V2) := fun a ha => by
      have t1 := (la a ha).1
      have t2 : D2 a ≤ 16 := hD a ha
      have t := i1 a ha
      rw [if_pos ha] at t
      exact ⟨by unfold sr_C; split <;> omega, t.1, t.2⟩
    have zk : fz_R j M Mk := fzR_tr (fzR_k (by omega) ka) ⟨by rw [i2], fun i _ => i3 586 i (by decide) (by decide), fun q a b c d => funext fun i => i3 q i c d, fun i _ => i3 _ _ (by decide) (by decide), fun b1 m a c d => hrM_eq (fun q i a b => i3 q i (by omega) (by omega)) (by rw [i2]) d, fun q a => ⟨funext fun i => i3 q i (by omega) (by omega), by rw [i2]⟩⟩
    refine fm_iload_n hc d_Mo_seal_24 rfl rfl ?_
    refine fm_bipush (v := nI 8) hc d_Mo_seal_25 rfl ?_
    refine fm_icmp_ge (tgt := 99) hc d_Mo_seal_27 rfl (fun _ => ?_) (fun gQ => absurd (by decide) gQ)
    refine fm_iconst (v := nI 0) hc d_Mo_seal_99 rfl ?_
    refine fm_istore_n (lv' := [(3, .int (nI 0)), (2, .int (nI ((24 * j) + 16))), (0, .ref 586), (1, .int (nI j))]) hc d_Mo_seal_100 rfl (by decide) rfl ?_
    refine fm_dropl (lv' := [(3, .int (nI 0)), (2, .int (nI ((24 * j) + 16))), (0, .ref 586), (1, .int (nI j))]) (by simp) ?_
    refine fm_loopI (N := 8) (lv := fun k => [(3, .int (nI k)), (2, .int (nI ((24 * j) + 16))), (0, .ref 586), (1, .int (nI j))]) (I := fun k M' => hr_W M' (sl_W j (S2, K2, O2, T2, G2, H2, V2, D2) ms k) ∧ hr_M M' (24 * j) (am_ow m0 (sl_O (S2, K2, O2, T2, G2, H2, V2, D2) m0 k)) ∧ fk_R (24 * j) Mk M') (fun k Mq hk hI ih => ?_) (fun Mq hI => ?_) ⟨hkw, hk1, fkR_rf _ _⟩
    · obtain ⟨l1, l2, f⟩ := hI
      have hRq : fm_RP Mq := fkR_RP f hRk
      have hq2 : hr_M Mq (24 * j + 16) (S2, K2, O2, T2, G2, H2, V2, D2) := f.2.2.2.1 _ _ (by omega) hsa hk2
      have oc : Mq.1 600 (24 * j + 16 + k) = O2 k := hq2.2.2.2.1 k hk
      have kc : Mq.1 599 (24 * j + 16 + k) = K2 k := hq2.2.2.1 k hk
      have km : Mq.1 599 (24 * j + k) = m0.2.1 k := l2.2.2.1 k hk
      by_cases g1 : O2 k = -1
      · refine fm_iload_n hc d_Mo_seal_101 rfl rfl ?_
        refine fm_bipush (v := nI 8) hc d_Mo_seal_102 rfl ?_
        refine fm_icmp_ge (tgt := 194) hc d_Mo_seal_104 rfl (fun gQ => absurd gQ (hnle (a := 8) (c := k) hk (by omega))) (fun _ => ?_)
        refine fm_iload_n hc d_Mo_seal_107 rfl rfl ?_
        refine fm_iload_n hc d_Mo_seal_108 rfl rfl ?_
        refine fm_iadd hc d_Mo_seal_109 ?_
        refine fm_top (congrArg Value.int (nI_add ((24 * j) + 16) k)) ?_
        refine fm_istore (lv' := [(4, .int (nI (((24 * j) + 16) + k))), (3, .int (nI k)), (2, .int (nI ((24 * j) + 16))), (0, .ref 586), (1, .int (nI j))]) hc d_Mo_seal_110 (by decide) rfl ?_
        refine fm_aload_n hc d_Mo_seal_112 rfl rfl ?_
        refine fm_getR (k := 15) (q := 600) hc K_Mo d_Mo_seal_113 q_900 rfl (by decide) (by omega) (by decide) (by decide) (by decide) rfl (rp_owed hRq) ?_
        refine fm_iload hc d_Mo_seal_116 rfl ?_
        refine fm_iald (j := ((24 * j) + 16) + k) (len := 96) hc 0 d_Mo_seal_118 (by decide) (by omega) (by decide) rfl (by omega) (by decide) ?_
        refine fm_top (congrArg Value.int (show Mq.1 600 (((24 * j) + 16) + k) = O2 k from oc)) ?_
        refine fm_if_lt (tgt := 188) hc d_Mo_seal_119 rfl (fun _ => ?_) (fun gQ => absurd (by rw [g1]; decide) gQ)
        refine fm_iinc (v := nI (k + 1)) (lv' := [(3, .int (nI (k + 1))), (4, .int (nI (((24 * j) + 16) + k))), (2, .int (nI ((24 * j) + 16))), (0, .ref 586), (1, .int (nI j))]) hc d_Mo_seal_188 rfl (nI_1 k) (by decide) rfl ?_
        refine fm_goto (tgt := 101) hc d_Mo_seal_191 rfl ?_
        refine fm_dropl (lv' := [(3, .int (nI (k + 1))), (2, .int (nI ((24 * j) + 16))), (0, .ref 586), (1, .int (nI j))]) (by simp) ?_
        refine ih _ ⟨?_, ?_, f⟩
        · show hr_W Mq (if O2 k = -1 then _ else _)
          rw [if_pos g1]; exact l1
        · show hr_M Mq _ (am_ow m0 (if ¬ O2 k = -1 ∧ m0.2.1 k = K2 k then _ else _))
          rw [if_neg (fun q => q.1 g1)]; exact l2
      · have g0 : ¬ O2 k < 0 := (hO k hk).resolve_left g1
        by_cases g2 : m0.2.1 k = K2 k
        · refine fm_iload_n hc d_Mo_seal_101 rfl rfl ?_
          refine fm_bipush (v := nI 8) hc d_Mo_seal_102 rfl ?_
          refine fm_icmp_ge (tgt := 194) hc d_Mo_seal_104 rfl (fun gQ => absurd gQ (hnle (a := 8) (c := k) hk (by omega))) (fun _ => ?_)
          refine fm_iload_n hc d_Mo_seal_107 rfl rfl ?_
          refine fm_iload_n hc d_Mo_seal_108 rfl rfl ?_
          refine fm_iadd hc d_Mo_seal_109 ?_
          refine fm_top (congrArg Value.int (nI_add ((24 * j) + 16) k)) ?_
          refine fm_istore (lv' := [(4, .int (nI (((24 * j) + 16) + k))), (3, .int (nI k)), (2, .int (nI ((24 * j) + 16))), (0, .ref 586), (1, .int (nI j))]) hc d_Mo_seal_110 (by decide) rfl ?_
          refine fm_aload_n hc d_Mo_seal_112 rfl rfl ?_
          refine fm_getR (k := 15) (q := 600) hc K_Mo d_Mo_seal_113 q_900 rfl (by decide) (by omega) (by decide) (by decide) (by decide) rfl (rp_owed hRq) ?_
          refine fm_iload hc d_Mo_seal_116 rfl ?_
          refine fm_iald (j := ((24 * j) + 16) + k) (len := 96) hc 0 d_Mo_seal_118 (by decide) (by omega) (by decide) rfl (by omega) (by decide) ?_
          refine fm_top (congrArg Value.int (show Mq.1 600 (((24 * j) + 16) + k) = O2 k from oc)) ?_
          refine fm_if_lt (tgt := 188) hc d_Mo_seal_119 rfl (fun gQ => absurd gQ g0) (fun _ => ?_)
          refine fm_aload_n hc d_Mo_seal_122 rfl rfl ?_
          refine fm_iconst (v := nI 1) hc d_Mo_seal_123 rfl ?_
          refine fm_iload_n hc d_Mo_seal_124 rfl rfl ?_
          refine fm_aload_n hc d_Mo_seal_125 rfl rfl ?_
          refine fm_getR (k := 14) (q := 599) hc K_Mo d_Mo_seal_126 q_899 rfl (by decide) (by omega) (by decide) (by decide) (by decide) rfl (rp_known hRq) ?_
          refine fm_iload hc d_Mo_seal_129 rfl ?_
          refine fm_iald (j := ((24 * j) + 16) + k) (len := 96) hc 0 d_Mo_seal_131 (by decide) (by omega) (by decide) rfl (by omega) (by decide) ?_
          refine fm_top (congrArg Value.int (show Mq.1 599 (((24 * j) + 16) + k) = K2 k from kc)) ?_
          refine fm_iload_n hc d_Mo_seal_132 rfl rfl ?_
          refine fm_aload_n hc d_Mo_seal_133 rfl rfl ?_
          refine fm_getR (k := 15) (q := 600) hc K_Mo d_Mo_seal_134 q_900 rfl (by decide) (by omega) (by decide) (by decide) (by decide) rfl (rp_owed hRq) ?_
          refine fm_iload hc d_Mo_seal_137 rfl ?_
          refine fm_iald (j := ((24 * j) + 16) + k) (len := 96) hc 0 d_Mo_seal_139 (by decide) (by omega) (by decide) rfl (by omega) (by decide) ?_
          refine fm_top (congrArg Value.int (show Mq.1 600 (((24 * j) + 16) + k) = O2 k from oc)) ?_
          refine fm_callV (av := [.int (nI 1), .int (nI k), .int (K2 k), .int (nI j), .int (O2 k)]) (rest := []) (ob := 586) (ci := 11) (r0 := ("AgentNetModel", F_Mo, 51)) (y := y_Mo_post) (bytes := b_Mo_post) hc fm_T0_good (fm_EX_st b x) hex q_1178 q_13 q_1175 q_1177 qs_Mo_post pd_Mo_post (by decide) (by omega) (by decide) (by decide) rfl rfl (rc_postR (a := k) (v := K2 k) (f := nI j) (t2 := O2 k) hn hRq l1) ⟨rfl, rfl, Nat.le_of_ble_eq_true rfl, Nat.le_of_ble_eq_true rfl⟩ ⟨Nat.le_of_ble_eq_true rfl, Nat.le_of_ble_eq_true rfl⟩ d_Mo_seal_140 (Nat.le_of_ble_eq_true rfl) (fun r n2 M2 hp => ?_)
          obtain ⟨rfl, hq1, p1, p2⟩ := hp
          replace hq1 := hq1.symm
          subst hq1
          revert p1 p2
          generalize M2 = Mb
          intro p1 p2
          have hRb := fvM_RP p2 hRq
          have lb : hr_M Mb (24 * j) (am_ow m0 (sl_O (S2, K2, O2, T2, G2, H2, V2, D2) m0 k)) := hrM_eq (fun q i a b => p2.2 _ _ (by omega) (by omega) (by omega) (by omega)) (by rw [p2.1]) l2
          refine fm_cnt (z' := (0, 0)) rfl (fm_st (st' := [.int (if (sl_W j (S2, K2, O2, T2, G2, H2, V2, D2) ms k).length < 20 then nI (sl_W j (S2, K2, O2, T2, G2, H2, V2, D2) ms k).length else -1)]) rfl ?_)
          refine fm_istore (lv' := [(5, .int (if (sl_W j (S2, K2, O2, T2, G2, H2, V2, D2) ms k).length < 20 then nI (sl_W j (S2, K2, O2, T2, G2, H2, V2, D2) ms k).length else -1)), (4, .int (nI (((24 * j) + 16) + k))), (3, .int (nI k)), (2, .int (nI ((24 * j) + 16))), (0, .ref 586), (1, .int (nI j))]) hc d_Mo_seal_143 (by decide) rfl ?_
          refine fm_bipush (v := nI 24) hc d_Mo_seal_145 rfl ?_
          refine fm_iload_n hc d_Mo_seal_147 rfl rfl ?_
          refine fm_imul hc d_Mo_seal_148 ?_
          refine fm_top (congrArg Value.int (pk_mul 24 j)) ?_
          refine fm_iload_n hc d_Mo_seal_149 rfl rfl ?_
          refine fm_iadd hc d_Mo_seal_150 ?_
          refine fm_top (congrArg Value.int (nI_add (24 * j) k)) ?_
          refine fm_istore (lv' := [(6, .int (nI ((24 * j) + k))), (5, .int (if (sl_W j (S2, K2, O2, T2, G2, H2, V2, D2) ms k).length < 20 then nI (sl_W j (S2, K2, O2, T2, G2, H2, V2, D2) ms k).length else -1)), (4, .int (nI (((24 * j) + 16) + k))), (3, .int (nI k)), (2, .int (nI ((24 * j) + 16))), (0, .ref 586), (1, .int (nI j))]) hc d_Mo_seal_151 (by decide) rfl ?_
          refine fm_aload_n hc d_Mo_seal_153 rfl rfl ?_
          refine fm_getR (k := 15) (q := 600) hc K_Mo d_Mo_seal_154 q_900 rfl (by decide) (by omega) (by decide) (by decide) (by decide) rfl (rp_owed hRb) ?_
          refine fm_iload hc d_Mo_seal_157 rfl ?_
          refine fm_aload_n hc d_Mo_seal_159 rfl rfl ?_
          refine fm_getR (k := 14) (q := 599) hc K_Mo d_Mo_seal_160 q_899 rfl (by decide) (by omega) (by decide) (by decide) (by decide) rfl (rp_known hRb) ?_
          refine fm_iload hc d_Mo_seal_163 rfl ?_
          refine fm_iald (j := (24 * j) + k) (len := 96) hc 0 d_Mo_seal_165 (by decide) (by omega) (by decide) rfl (by omega) (by decide) ?_
          refine fm_top (congrArg Value.int (show Mb.1 599 ((24 * j) + k) = m0.2.1 k from ((p2.2 _ _ (by omega) (by omega) (by decide) (by decide)).trans km))) ?_
          refine fm_aload_n hc d_Mo_seal_166 rfl rfl ?_
          refine fm_getR (k := 14) (q := 599) hc K_Mo d_Mo_seal_167 q_899 rfl (by decide) (by omega) (by decide) (by decide) (by decide) rfl (rp_known hRb) ?_
          refine fm_iload hc d_Mo_seal_170 rfl ?_
          refine fm_iald (j := ((24 * j) + 16) + k) (len := 96) hc 0 d_Mo_seal_172 (by decide) (by omega) (by decide) rfl (by omega) (by decide) ?_
          refine fm_top (congrArg Value.int (show Mb.1 599 (((24 * j) + 16) + k) = K2 k from ((p2.2 _ _ (by omega) (by omega) (by decide) (by decide)).trans kc))) ?_
          refine fm_icmp_ne (tgt := 180) hc d_Mo_seal_173 rfl (fun gQ => absurd g2 gQ) (fun _ => ?_)
          refine fm_iconst (v := (-1)) hc d_Mo_seal_176 rfl ?_
          refine fm_goto (tgt := 187) hc d_Mo_seal_177 rfl ?_
          refine fm_iast (j := (24 * j) + k) (len := 96) (v := (-1)) hc 0 d_Mo_seal_187 (by decide) (by omega) (by decide) rfl (by omega) (by decide) ?_
          refine fm_iinc (v := nI (k + 1)) (lv' := [(3, .int (nI (k + 1))), (6, .int (nI ((24 * j) + k))), (5, .int (if (sl_W j (S2, K2, O2, T2, G2, H2, V2, D2) ms k).length < 20 then nI (sl_W j (S2, K2, O2, T2, G2, H2, V2, D2) ms k).length else -1)), (4, .int (nI (((24 * j) + 16) + k))), (2, .int (nI ((24 * j) + 16))), (0, .ref 586), (1, .int (nI j))]) hc d_Mo_seal_188 rfl (nI_1 k) (by decide) rfl ?_
          refine fm_goto (tgt := 101) hc d_Mo_seal_191 rfl ?_
          refine fm_dropl (lv' := [(3, .int (nI (k + 1))), (2, .int (nI ((24 * j) + 16))), (0, .ref 586), (1, .int (nI j))]) (by simp) ?_
          refine ih _ ⟨?_, ?_, fkR_tr f (fkR_tr (fkR_V p2) (fkR_R (by omega) (frR_p1 (Or.inl (by omega)) (frR_rf _ _))))⟩
          · show hr_W _ (if O2 k = -1 then _ else _)
            rw [if_neg g1]
            exact hrW_of (fun q i a b => p1_other (by omega)) (p1_other (by decide)) p1
          · show hr_M _ _ (am_ow m0 (if ¬ O2 k = -1 ∧ m0.2.1 k = K2 k then _ else _))
            rw [if_pos ⟨g1, g2⟩]
            exact hrM_ow lb
        · refine fm_iload_n hc d_Mo_seal_101 rfl rfl ?_
          refine fm_bipush (v := nI 8) hc d_Mo_seal_102 rfl ?_
          refine fm_icmp_ge (tgt := 194) hc d_Mo_seal_104 rfl (fun gQ => absurd gQ (hnle (a := 8) (c := k) hk (by omega))) (fun _ => ?_)
          refine fm_iload_n hc d_Mo_seal_107 rfl rfl ?_
          refine fm_iload_n hc d_Mo_seal_108 rfl rfl ?_
          refine fm_iadd hc d_Mo_seal_109 ?_
          refine fm_top (congrArg Value.int (nI_add ((24 * j) + 16) k)) ?_
          refine fm_istore (lv' := [(4, .int (nI (((24 * j) + 16) + k))), (3, .int (nI k)), (2, .int (nI ((24 * j) + 16))), (0, .ref 586), (1, .int (nI j))]) hc d_Mo_seal_110 (by decide) rfl ?_
          refine fm_aload_n hc d_Mo_seal_112 rfl rfl ?_
          refine fm_getR (k := 15) (q := 600) hc K_Mo d_Mo_seal_113 q_900 rfl (by decide) (by omega) (by decide) (by decide) (by decide) rfl (rp_owed hRq) ?_
          refine fm_iload hc d_Mo_seal_116 rfl ?_
          refine fm_iald (j := ((24 * j) + 16) + k) (len := 96) hc 0 d_Mo_seal_118 (by decide) (by omega) (by decide) rfl (by omega) (by decide) ?_
          refine fm_top (congrArg Value.int (show Mq.1 600 (((24 * j) + 16) + k) = O2 k from oc)) ?_
          refine fm_if_lt (tgt := 188) hc d_Mo_seal_119 rfl (fun gQ => absurd gQ g0) (fun _ => ?_)
          refine fm_aload_n hc d_Mo_seal_122 rfl rfl ?_
          refine fm_iconst (v := nI 1) hc d_Mo_seal_123 rfl ?_
          refine fm_iload_n hc d_Mo_seal_124 rfl rfl ?_
          refine fm_aload_n hc d_Mo_seal_125 rfl rfl ?_
          refine fm_getR (k := 14) (q := 599) hc K_Mo d_Mo_seal_126 q_899 rfl (by decide) (by omega) (by decide) (by decide) (by decide) rfl (rp_known hRq) ?_
          refine fm_iload hc d_Mo_seal_129 rfl ?_
          refine fm_iald (j := ((24 * j) + 16) + k) (len := 96) hc 0 d_Mo_seal_131 (by decide) (by omega) (by decide) rfl (by omega) (by decide) ?_
          refine fm_top (congrArg Value.int (show Mq.1 599 (((24 * j) + 16) + k) = K2 k from kc)) ?_
          refine fm_iload_n hc d_Mo_seal_132 rfl rfl ?_
          refine fm_aload_n hc d_Mo_seal_133 rfl rfl ?_
          refine fm_getR (k := 15) (q := 600) hc K_Mo d_Mo_seal_134 q_900 rfl (by decide) (by omega) (by decide) (by decide) (by decide) rfl (rp_owed hRq) ?_
          refine fm_iload hc d_Mo_seal_137 rfl ?_
          refine fm_iald (j := ((24 * j) + 16) + k) (len := 96) hc 0 d_Mo_seal_139 (by decide) (by omega) (by decide) rfl (by omega) (by decide) ?_
          refine fm_top (congrArg Value.int (show Mq.1 600 (((24 * j) + 16) + k) = O2 k from oc)) ?_
          refine fm_callV (av := [.int (nI 1), .int (nI k), .int (K2 k), .int (nI j), .int (O2 k)]) (rest := []) (ob := 586) (ci := 11) (r0 := ("AgentNetModel", F_Mo, 51)) (y := y_Mo_post) (bytes := b_Mo_post) hc fm_T0_good (fm_EX_st b x) hex q_1178 q_13 q_1175 q_1177 qs_Mo_post pd_Mo_post (by decide) (by omega) (by decide) (by decide) rfl rfl (rc_postR (a := k) (v := K2 k) (f := nI j) (t2 := O2 k) hn hRq l1) ⟨rfl, rfl, Nat.le_of_ble_eq_true rfl, Nat.le_of_ble_eq_true rfl⟩ ⟨Nat.le_of_ble_eq_true rfl, Nat.le_of_ble_eq_true rfl⟩ d_Mo_seal_140 (Nat.le_of_ble_eq_true rfl) (fun r n2 M2 hp => ?_)
          obtain ⟨rfl, hq1, p1, p2⟩ := hp
          replace hq1 := hq1.symm
          subst hq1
          revert p1 p2
          generalize M2 = Mb
          intro p1 p2
          have hRb := fvM_RP p2 hRq
          have lb : hr_M Mb (24 * j) (am_ow m0 (sl_O (S2, K2, O2, T2, G2, H2, V2, D2) m0 k)) := hrM_eq (fun q i a b => p2.2 _ _ (by omega) (by omega) (by omega) (by omega)) (by rw [p2.1]) l2
          refine fm_cnt (z' := (0, 0)) rfl (fm_st (st' := [.int (if (sl_W j (S2, K2, O2, T2, G2, H2, V2, D2) ms k).length < 20 then nI (sl_W j (S2, K2, O2, T2, G2, H2, V2, D2) ms k).length else -1)]) rfl ?_)
          refine fm_istore (lv' := [(5, .int (if (sl_W j (S2, K2, O2, T2, G2, H2, V2, D2) ms k).length < 20 then nI (sl_W j (S2, K2, O2, T2, G2, H2, V2, D2) ms k).length else -1)), (4, .int (nI (((24 * j) + 16) + k))), (3, .int (nI k)), (2, .int (nI ((24 * j) + 16))), (0, .ref 586), (1, .int (nI j))]) hc d_Mo_seal_143 (by decide) rfl ?_
          refine fm_bipush (v := nI 24) hc d_Mo_seal_145 rfl ?_
          refine fm_iload_n hc d_Mo_seal_147 rfl rfl ?_
          refine fm_imul hc d_Mo_seal_148 ?_
          refine fm_top (congrArg Value.int (pk_mul 24 j)) ?_
          refine fm_iload_n hc d_Mo_seal_149 rfl rfl ?_
          refine fm_iadd hc d_Mo_seal_150 ?_
          refine fm_top (congrArg Value.int (nI_add (24 * j) k)) ?_
          refine fm_istore (lv' := [(6, .int (nI ((24 * j) + k))), (5, .int (if (sl_W j (S2, K2, O2, T2, G2, H2, V2, D2) ms k).length < 20 then nI (sl_W j (S2, K2, O2, T2, G2, H2, V2, D2) ms k).length else -1)), (4, .int (nI (((24 * j) + 16) + k))), (3, .int (nI k)), (2, .int (nI ((24 * j) + 16))), (0, .ref 586), (1, .int (nI j))]) hc d_Mo_seal_151 (by decide) rfl ?_
          refine fm_aload_n hc d_Mo_seal_153 rfl rfl ?_
          refine fm_getR (k := 15) (q := 600) hc K_Mo d_Mo_seal_154 q_900 rfl (by decide) (by omega) (by decide) (by decide) (by decide) rfl (rp_owed hRb) ?_
          refine fm_iload hc d_Mo_seal_157 rfl ?_
          refine fm_aload_n hc d_Mo_seal_159 rfl rfl ?_
          refine fm_getR (k := 14) (q := 599) hc K_Mo d_Mo_seal_160 q_899 rfl (by decide) (by omega) (by decide) (by decide) (by decide) rfl (rp_known hRb) ?_
          refine fm_iload hc d_Mo_seal_163 rfl ?_
          refine fm_iald (j := (24 * j) + k) (len := 96) hc 0 d_Mo_seal_165 (by decide) (by omega) (by decide) rfl (by omega) (by decide) ?_
          refine fm_top (congrArg Value.int (show Mb.1 599 ((24 * j) + k) = m0.2.1 k from ((p2.2 _ _ (by omega) (by omega) (by decide) (by decide)).trans km))) ?_
          refine fm_aload_n hc d_Mo_seal_166 rfl rfl ?_
          refine fm_getR (k := 14) (q := 599) hc K_Mo d_Mo_seal_167 q_899 rfl (by decide) (by omega) (by decide) (by decide) (by decide) rfl (rp_known hRb) ?_
          refine fm_iload hc d_Mo_seal_170 rfl ?_
          refine fm_iald (j := ((24 * j) + 16) + k) (len := 96) hc 0 d_Mo_seal_172 (by decide) (by omega) (by decide) rfl (by omega) (by decide) ?_
          refine fm_top (congrArg Value.int (show Mb.1 599 (((24 * j) + 16) + k) = K2 k from ((p2.2 _ _ (by omega) (by omega) (by decide) (by decide)).trans kc))) ?_
          refine fm_icmp_ne (tgt := 180) hc d_Mo_seal_173 rfl (fun _ => ?_) (fun gQ => absurd gQ g2)
          refine fm_aload_n hc d_Mo_seal_180 rfl rfl ?_
          refine fm_getR (k := 15) (q := 600) hc K_Mo d_Mo_seal_181 q_900 rfl (by decide) (by omega) (by decide) (by decide) (by decide) rfl (rp_owed hRb) ?_
          refine fm_iload hc d_Mo_seal_184 rfl ?_
          refine fm_iald (j := (24 * j) + k) (len := 96) hc 0 d_Mo_seal_186 (by decide) (by omega) (by decide) rfl (by omega) (by decide) ?_
          refine fm_iast (j := (24 * j) + k) (len := 96) (v := Mb.1 600 ((24 * j) + k)) hc 0 d_Mo_seal_187 (by decide) (by omega) (by decide) rfl (by omega) (by decide) ?_
          refine fm_mem (M' := Mb) rfl (p1_id rfl) ?_
          refine fm_iinc (v := nI (k + 1)) (lv' := [(3, .int (nI (k + 1))), (6, .int (nI ((24 * j) + k))), (5, .int (if (sl_W j (S2, K2, O2, T2, G2, H2, V2, D2) ms k).length < 20 then nI (sl_W j (S2, K2, O2, T2, G2, H2, V2, D2) ms k).length else -1)), (4, .int (nI (((24 * j) + 16) + k))), (2, .int (nI ((24 * j) + 16))), (0, .ref 586), (1, .int (nI j))]) hc d_Mo_seal_188 rfl (nI_1 k) (by decide) rfl ?_
          refine fm_goto (tgt := 101) hc d_Mo_seal_191 rfl ?_
          refine fm_dropl (lv' := [(3, .int (nI (k + 1))), (2, .int (nI ((24 * j) + 16))), (0, .ref 586), (1, .int (nI j))]) (by simp) ?_
          refine ih _ ⟨?_, ?_, fkR_tr f (fkR_V p2)⟩
          · show hr_W _ (if O2 k = -1 then _ else _)
            rw [if_neg g1]
            exact p1
          · show hr_M _ _ (am_ow m0 (if ¬ O2 k = -1 ∧ m0.2.1 k = K2 k then _ else _))
            rw [if_neg (fun q => g2 q.2)]
            exact lb
    · obtain ⟨l1, l2, f⟩ := hI
      have hq2 : hr_M Mq (24 * j + 16) (S2, K2, O2, T2, G2, H2, V2, D2) := f.2.2.2.1 _ _ (by omega) hsa hk2
      have hql : hr_L Mq (sr_C C D2) (sr_W C W V2) := fun a ha => by
        rw [f.2.2.1 593 (by decide) (by decide), f.2.2.1 594 (by decide) (by decide)]
        exact hkl a ha
      refine fm_iload_n hc d_Mo_seal_101 rfl rfl ?_
      refine fm_bipush (v := nI 8) hc d_Mo_seal_102 rfl ?_
      refine fm_icmp_ge (tgt := 194) hc d_Mo_seal_104 rfl (fun _ => ?_) (fun gQ => absurd (by decide) gQ)
      exact fm_vret hc hr d_Mo_seal_194 (Nat.le_refl _) (Nat.le_refl _) ⟨rfl, rfl, l2, hq2, l1, hql, fzR_tr zk (fzR_k (by omega) f), (congrFun (f.2.2.1 596 (by decide) (by decide)) j).trans ((i3 _ _ (by decide) (by decide)).trans (congrFun (ka.2.2.1 596 (by decide) (by decide)) j))⟩
theorem r_write_less {l : Launch} {b : Nat} {x : Nat → Nat} {D : va_G} {dA : Nat → ClassId} {j lf c0 n : Nat} {M : fm_M} (hn : 629 ≤ n) (hR : fm_RP M) (hj : j < 4) (hup : ¬ M.1 595 j = 0) (hlf : M.1 596 j = nI lf) (hlf1 : 1 ≤ lf) (hlf9 : lf ≤ 9) (hc1 : 1 ≤ c0) (hcl : c0 < lf) : Met l y_Mo_write (Cond.code y_Mo_write b_Mo_write 3 (some .int) :: fm_T0) ({ frames := 5, cells := 0, slots := 0, locals := 200 }) (fm_Pc fm_lay fm_nf fm_fk fm_cl b x D dA (fm_tys dA) (fm_EX b x) false [.ref 586, .int (nI j), .int (nI c0)] n M) (fm_Qc fm_lay fm_nf fm_fk fm_cl b x D dA (fun r n' M' => r = some (.int (nI (lf - c0))) ∧ n' = n ∧ M' = fm_put1 (fm_put1 M 586 0 (nI 0)) 596 j (nI (lf - c0)))) 0 0 (fm_A b) := by
  refine fm_enter (by decide) (Nat.le_of_ble_eq_true rfl) ?_
  intro p e s m args below meth c9 hc hr hnm hex htg
  refine fm_aload_n hc d_Mo_write_0 rfl rfl ?_
  refine fm_aload_n hc d_Mo_write_1 rfl rfl ?_
  refine fm_iload_n hc d_Mo_write_2 rfl rfl ?_
  refine fm_iload_n hc d_Mo_write_3 rfl rfl ?_
  refine fm_if_le (tgt := 11) hc d_Mo_write_4 rfl (fun gQ => absurd gQ (fun q => by have := (nI_leI (a := c0) (b := 0) (by omega) (by decide)).mp q; omega)) (fun _ => ?_)
  refine fm_iconst (v := nI 1) hc d_Mo_write_7 rfl ?_
  refine fm_goto (tgt := 12) hc d_Mo_write_8 rfl ?_
  refine fm_callV (av := [.int (nI j), .int (nI 1)]) (rest := [.ref 586]) (ob := 586) (ci := 11) (r0 := ("AgentNetModel", F_Mo, 51)) (y := y_Mo_wrongAt) (bytes := b_Mo_wrongAt) hc fm_T0_good (fm_EX_st b x) hex q_1078 q_13 q_1075 q_1077 qs_Mo_wrongAt pd_Mo_wrongAt (by decide) (by omega) (by decide) (by decide) rfl rfl (c_wrongAt_fine hn hR hj hup) ⟨rfl, rfl, Nat.le_of_ble_eq_true rfl, Nat.le_of_ble_eq_true rfl⟩ ⟨Nat.le_of_ble_eq_true rfl, Nat.le_of_ble_eq_true rfl⟩ d_Mo_write_12 (Nat.le_of_ble_eq_true rfl) (fun r n2 M2 hp => ?_)
  obtain ⟨rfl, hq1, hq2⟩ := hp
  replace hq1 := hq1.symm
  replace hq2 := hq2.symm
  subst hq1 hq2
  refine fm_cnt (z' := (0, 0)) rfl (fm_st (st' := [.int (nI 0), .ref 586]) rfl ?_)
  refine fm_putI (k := 0) (v := nI 0) hc K_Mo d_Mo_write_15 q_885 rfl (by decide) (by omega) (by decide) (by decide) (by decide) rfl rfl rfl rfl ?_
  refine fm_mem (M' := fm_put1 M 586 0 (nI 0)) rfl rfl ?_
  refine fm_aload_n hc d_Mo_write_18 rfl rfl ?_
  refine fm_aload_n hc d_Mo_write_19 rfl rfl ?_
  refine fm_getI (k := 0) hc K_Mo d_Mo_write_20 q_885 rfl (by decide) (by omega) (by decide) (by decide) (by decide) rfl ?_
  refine fm_top (congrArg Value.int (show (fm_put1 M 586 0 (nI 0)).1 586 0 = nI 0 from (p1_same _ _ _ _))) ?_
  refine fm_if_ne (tgt := 39) hc d_Mo_write_23 rfl (fun gQ => absurd (by decide) gQ) (fun _ => ?_)
  refine fm_aload_n hc d_Mo_write_26 rfl rfl ?_
  refine fm_getR (k := 11) (q := 596) hc K_Mo d_Mo_write_27 q_896 rfl (by decide) (by omega) (by decide) (by decide) (by decide) rfl (rp_left hR) ?_
  refine fm_iload_n hc d_Mo_write_30 rfl rfl ?_
  refine fm_iald (j := j) (len := 4) hc 0 d_Mo_write_31 (by decide) (by omega) (by decide) rfl (by omega) (by decide) ?_
  refine fm_top (congrArg Value.int (show (fm_put1 M 586 0 (nI 0)).1 596 j = nI lf from ((p1_other (by decide)).trans hlf))) ?_
  refine fm_if_ne (tgt := 39) hc d_Mo_write_32 rfl (fun _ => ?_) (fun gQ => absurd gQ (fun q => absurd (nI_inj (c := 0) (by omega) (by decide) q) (by omega)))
  refine fm_aload_n hc d_Mo_write_39 rfl rfl ?_
  refine fm_getI (k := 0) hc K_Mo d_Mo_write_40 q_885 rfl (by decide) (by omega) (by decide) (by decide) (by decide) rfl ?_
  refine fm_top (congrArg Value.int (show (fm_put1 M 586 0 (nI 0)).1 586 0 = nI 0 from (p1_same _ _ _ _))) ?_
  refine fm_putI (k := 0) (v := nI 0) hc K_Mo d_Mo_write_43 q_885 rfl (by decide) (by omega) (by decide) (by decide) (by decide) rfl rfl rfl rfl ?_
  refine fm_mem (M' := fm_put1 M 586 0 (nI 0)) rfl (p1_id (p1_same _ _ _ _)) ?_
  refine fm_aload_n hc d_Mo_write_46 rfl rfl ?_
  refine fm_getI (k := 0) hc K_Mo d_Mo_write_47 q_885 rfl (by decide) (by omega) (by decide) (by decide) (by decide) rfl ?_
  refine fm_top (congrArg Value.int (show (fm_put1 M 586 0 (nI 0)).1 586 0 = nI 0 from (p1_same _ _ _ _))) ?_
  refine fm_if_le (tgt := 55) hc d_Mo_write_50 rfl (fun _ => ?_) (fun gQ => absurd (by decide) gQ)
  refine fm_aload_n hc d_Mo_write_55 rfl rfl ?_
  refine fm_getR (k := 11) (q := 596) hc K_Mo d_Mo_write_56 q_896 rfl (by decide) (by omega) (by decide) (by decide) (by decide) rfl (rp_left hR) ?_
  refine fm_iload_n hc d_Mo_write_59 rfl rfl ?_
  refine fm_iload_n hc d_Mo_write_60 rfl rfl ?_
  refine fm_aload_n hc d_Mo_write_61 rfl rfl ?_
  refine fm_getR (k := 11) (q := 596) hc K_Mo d_Mo_write_62 q_896 rfl (by decide) (by omega) (by decide) (by decide) (by decide) rfl (rp_left hR) ?_
  refine fm_iload_n hc d_Mo_write_65 rfl rfl ?_
  refine fm_iald (j := j) (len := 4) hc 0 d_Mo_write_66 (by decide) (by omega) (by decide) rfl (by omega) (by decide) ?_
  refine fm_top (congrArg Value.int (show (fm_put1 M 586 0 (nI 0)).1 596 j = nI lf from ((p1_other (by decide)).trans hlf))) ?_
  refine fm_icmp_lt (tgt := 74) hc d_Mo_write_67 rfl (fun _ => ?_) (fun gQ => absurd (nI_lt (by omega) (by omega)) gQ)
  refine fm_aload_n hc d_Mo_write_74 rfl rfl ?_
  refine fm_getR (k := 11) (q := 596) hc K_Mo d_Mo_write_75 q_896 rfl (by decide) (by omega) (by decide) (by decide) (by decide) rfl (rp_left hR) ?_
  refine fm_iload_n hc d_Mo_write_78 rfl rfl ?_
  refine fm_iald (j := j) (len := 4) hc 0 d_Mo_write_79 (by decide) (by omega) (by decide) rfl (by omega) (by decide) ?_
  refine fm_top (congrArg Value.int (show (fm_put1 M 586 0 (nI 0)).1 596 j = nI lf from ((p1_other (by decide)).trans hlf))) ?_
  refine fm_iload_n hc d_Mo_write_80 rfl rfl ?_
  refine fm_isub hc d_Mo_write_81 ?_
  refine fm_top (congrArg Value.int (pk_sub (a := lf) (b := c0) (by omega))) ?_
  refine fm_iast (j := j) (len := 4) (v := nI (lf - c0)) hc 0 d_Mo_write_82 (by decide) (by omega) (by decide) rfl (by omega) (by decide) ?_
  refine fm_aload_n hc d_Mo_write_83 rfl rfl ?_
  refine fm_getR (k := 11) (q := 596) hc K_Mo d_Mo_write_84 q_896 rfl (by decide) (by omega) (by decide) (by decide) (by decide) rfl (rp_left hR) ?_
  refine fm_iload_n hc d_Mo_write_87 rfl rfl ?_
  refine fm_iald (j := j) (len := 4) hc 0 d_Mo_write_88 (by decide) (by omega) (by decide) rfl (by omega) (by decide) ?_
  refine fm_top (congrArg Value.int (show (fm_put1 (fm_put1 M 586 0 (nI 0)) 596 j (nI (lf - c0))).1 596 j = nI (lf - c0) from (p1_same _ _ _ _))) ?_
  refine fm_if_ne (tgt := 97) hc d_Mo_write_89 rfl (fun _ => ?_) (fun gQ => absurd gQ (fun q => absurd (nI_inj (c := 0) (by omega) (by decide) q) (by omega)))
  refine fm_aload_n hc d_Mo_write_97 rfl rfl ?_
  refine fm_getR (k := 11) (q := 596) hc K_Mo d_Mo_write_98 q_896 rfl (by decide) (by omega) (by decide) (by decide) (by decide) rfl (rp_left hR) ?_
  refine fm_iload_n hc d_Mo_write_101 rfl rfl ?_
  refine fm_iald (j := j) (len := 4) hc 0 d_Mo_write_102 (by decide) (by omega) (by decide) rfl (by omega) (by decide) ?_
  refine fm_top (congrArg Value.int (show (fm_put1 (fm_put1 M 586 0 (nI 0)) 596 j (nI (lf - c0))).1 596 j = nI (lf - c0) from (p1_same _ _ _ _))) ?_
  exact fm_iret hc hr d_Mo_write_103 (Nat.le_refl _) (Nat.le_refl _) ⟨rfl, rfl, rfl⟩
theorem r_write_seal {l : Launch} {b : Nat} {x : Nat → Nat} {D : va_G} {dA : Nat → ClassId} {j lf n : Nat} {m0 s0 : am_T} {ms : List mg_T} {C : Nat → Nat} {W : Nat → Nat → Int32} {M : fm_M} {v : Int32} (hn : 629 ≤ n) (hR : fm_RP M) (hj : j < 4) (h : hr_M M (24 * j) m0) (g : hr_M M (24 * j + 8) s0) (hma : am_wfs m0) (hsa : am_wfs s0) (hw : hr_W M ms) (hl : hr_L M C W) (hD : ∀ a, a < 8 → s0.2.2.2.2.2.2.2 a ≤ 16) (hO : ∀ a, a < 8 → s0.2.2.1 a = -1 ∨ ¬ s0.2.2.1 a < 0) (hup : ¬ M.1 595 j = 0) (hlf : M.1 596 j = nI lf) (hlf1 : 1 ≤ lf) (hlf9 : lf ≤ 9) (hv1 : ¬ v ≤ 0) (hvl : ¬ v < nI lf) : Met l y_Mo_write (Cond.code y_Mo_write b_Mo_write 3 (some .int) :: fm_T0) ({ frames := 5, cells := 0, slots := 0, locals := 200 }) (fm_Pc fm_lay fm_nf fm_fk fm_cl b x D dA (fm_tys dA) (fm_EX b x) false [.ref 586, .int (nI j), .int v] n M) (fm_Qc fm_lay fm_nf fm_fk fm_cl b x D dA (fun r n' M' => r = some (.int (nI 0)) ∧ n' = n ∧ hr_M M' (24 * j) (am_ow m0 (sl_O s0 m0 8)) ∧ hr_M M' (24 * j + 16) s0 ∧ hr_W M' (sl_W j s0 ms 8) ∧ hr_L M' (sr_C C s0.2.2.2.2.2.2.2) (sr_W C W s0.2.2.2.2.2.2.1) ∧ fz_R j (fm_put1 M 586 0 (nI 0)) M' ∧ M'.1 596 j = nI 0)) 0 0 (fm_A b) := by
  refine fm_enter (by decide) (Nat.le_of_ble_eq_true rfl) ?_
  intro p e s m args below meth c9 hc hr hnm hex htg
  have a1 : hr_M (fm_put1 (fm_put1 M 586 0 (nI 0)) 596 j (nI 0)) (24 * j) m0 := hrM_o (by decide) (hrM_o (by decide) h)
  have a2 : hr_M (fm_put1 (fm_put1 M 586 0 (nI 0)) 596 j (nI 0)) (24 * j + 8) s0 := hrM_o (by decide) (hrM_o (by decide) g)
  have a3 : hr_W (fm_put1 (fm_put1 M 586 0 (nI 0)) 596 j (nI 0)) ms := hrW_of (fun q i a b => (p1_other (by omega)).trans (p1_other (by omega))) ((p1_other (by decide)).trans (p1_at (by decide))) hw
  have a4 : hr_L (fm_put1 (fm_put1 M 586 0 (nI 0)) 596 j (nI 0)) C W := fun a ha => by
    have q := hl a ha
    exact ⟨q.1, q.2.1, q.2.2⟩
  have a5 : fz_R j (fm_put1 M 586 0 (nI 0)) (fm_put1 (fm_put1 M 586 0 (nI 0)) 596 j (nI 0)) := ⟨rfl, fun i _ => p1_other (by decide), fun q a b c d => funext fun i => p1_other (by omega), fun i hi => p1_at hi, fun b1 m a c d => hrM_o (by decide) d, fun q a => ⟨funext fun i => p1_other (by omega), rfl⟩⟩
  refine fm_aload_n hc d_Mo_write_0 rfl rfl ?_
  refine fm_aload_n hc d_Mo_write_1 rfl rfl ?_
  refine fm_iload_n hc d_Mo_write_2 rfl rfl ?_
  refine fm_iload_n hc d_Mo_write_3 rfl rfl ?_
  refine fm_if_le (tgt := 11) hc d_Mo_write_4 rfl (fun gQ => absurd gQ hv1) (fun _ => ?_)
  refine fm_iconst (v := nI 1) hc d_Mo_write_7 rfl ?_
  refine fm_goto (tgt := 12) hc d_Mo_write_8 rfl ?_
  refine fm_callV (av := [.int (nI j), .int (nI 1)]) (rest := [.ref 586]) (ob := 586) (ci := 11) (r0 := ("AgentNetModel", F_Mo, 51)) (y := y_Mo_wrongAt) (bytes := b_Mo_wrongAt) hc fm_T0_good (fm_EX_st b x) hex q_1078 q_13 q_1075 q_1077 qs_Mo_wrongAt pd_Mo_wrongAt (by decide) (by omega) (by decide) (by decide) rfl rfl (c_wrongAt_fine hn hR hj hup) ⟨rfl, rfl, Nat.le_of_ble_eq_true rfl, Nat.le_of_ble_eq_true rfl⟩ ⟨Nat.le_of_ble_eq_true rfl, Nat.le_of_ble_eq_true rfl⟩ d_Mo_write_12 (Nat.le_of_ble_eq_true rfl) (fun r n2 M2 hp => ?_)
  obtain ⟨rfl, hq1, hq2⟩ := hp
  replace hq1 := hq1.symm
  replace hq2 := hq2.symm
  subst hq1 hq2
  refine fm_cnt (z' := (0, 0)) rfl (fm_st (st' := [.int (nI 0), .ref 586]) rfl ?_)
  refine fm_putI (k := 0) (v := nI 0) hc K_Mo d_Mo_write_15 q_885 rfl (by decide) (by omega) (by decide) (by decide) (by decide) rfl rfl rfl rfl ?_
  refine fm_mem (M' := fm_put1 M 586 0 (nI 0)) rfl rfl ?_
  refine fm_aload_n hc d_Mo_write_18 rfl rfl ?_
  refine fm_aload_n hc d_Mo_write_19 rfl rfl ?_
  refine fm_getI (k := 0) hc K_Mo d_Mo_write_20 q_885 rfl (by decide) (by omega) (by decide) (by decide) (by decide) rfl ?_
  refine fm_top (congrArg Value.int (show (fm_put1 M 586 0 (nI 0)).1 586 0 = nI 0 from (p1_same _ _ _ _))) ?_
  refine fm_if_ne (tgt := 39) hc d_Mo_write_23 rfl (fun gQ => absurd (by decide) gQ) (fun _ => ?_)
  refine fm_aload_n hc d_Mo_write_26 rfl rfl ?_
  refine fm_getR (k := 11) (q := 596) hc K_Mo d_Mo_write_27 q_896 rfl (by decide) (by omega) (by decide) (by decide) (by decide) rfl (rp_left hR) ?_
  refine fm_iload_n hc d_Mo_write_30 rfl rfl ?_
  refine fm_iald (j := j) (len := 4) hc 0 d_Mo_write_31 (by decide) (by omega) (by decide) rfl (by omega) (by decide) ?_
  refine fm_top (congrArg Value.int (show (fm_put1 M 586 0 (nI 0)).1 596 j = nI lf from ((p1_other (by decide)).trans hlf))) ?_
  refine fm_if_ne (tgt := 39) hc d_Mo_write_32 rfl (fun _ => ?_) (fun gQ => absurd gQ (fun q => absurd (nI_inj (c := 0) (by omega) (by decide) q) (by omega)))
  refine fm_aload_n hc d_Mo_write_39 rfl rfl ?_
  refine fm_getI (k := 0) hc K_Mo d_Mo_write_40 q_885 rfl (by decide) (by omega) (by decide) (by decide) (by decide) rfl ?_
  refine fm_top (congrArg Value.int (show (fm_put1 M 586 0 (nI 0)).1 586 0 = nI 0 from (p1_same _ _ _ _))) ?_
  refine fm_putI (k := 0) (v := nI 0) hc K_Mo d_Mo_write_43 q_885 rfl (by decide) (by omega) (by decide) (by decide) (by decide) rfl rfl rfl rfl ?_
  refine fm_mem (M' := fm_put1 M 586 0 (nI 0)) rfl (p1_id (p1_same _ _ _ _)) ?_
  refine fm_aload_n hc d_Mo_write_46 rfl rfl ?_
  refine fm_getI (k := 0) hc K_Mo d_Mo_write_47 q_885 rfl (by decide) (by omega) (by decide) (by decide) (by decide) rfl ?_
  refine fm_top (congrArg Value.int (show (fm_put1 M 586 0 (nI 0)).1 586 0 = nI 0 from (p1_same _ _ _ _))) ?_
  refine fm_if_le (tgt := 55) hc d_Mo_write_50 rfl (fun _ => ?_) (fun gQ => absurd (by decide) gQ)
  refine fm_aload_n hc d_Mo_write_55 rfl rfl ?_
  refine fm_getR (k := 11) (q := 596) hc K_Mo d_Mo_write_56 q_896 rfl (by decide) (by omega) (by decide) (by decide) (by decide) rfl (rp_left hR) ?_
  refine fm_iload_n hc d_Mo_write_59 rfl rfl ?_
  refine fm_iload_n hc d_Mo_write_60 rfl rfl ?_
  refine fm_aload_n hc d_Mo_write_61 rfl rfl ?_
  refine fm_getR (k := 11) (q := 596) hc K_Mo d_Mo_write_62 q_896 rfl (by decide) (by omega) (by decide) (by decide) (by decide) rfl (rp_left hR) ?_
  refine fm_iload_n hc d_Mo_write_65 rfl rfl ?_
  refine fm_iald (j := j) (len := 4) hc 0 d_Mo_write_66 (by decide) (by omega) (by decide) rfl (by omega) (by decide) ?_
  refine fm_top (congrArg Value.int (show (fm_put1 M 586 0 (nI 0)).1 596 j = nI lf from ((p1_other (by decide)).trans hlf))) ?_
  refine fm_icmp_lt (tgt := 74) hc d_Mo_write_67 rfl (fun gQ => absurd gQ hvl) (fun _ => ?_)
  refine fm_iconst (v := nI 0) hc d_Mo_write_70 rfl ?_
  refine fm_goto (tgt := 82) hc d_Mo_write_71 rfl ?_
  refine fm_iast (j := j) (len := 4) (v := nI 0) hc 0 d_Mo_write_82 (by decide) (by omega) (by decide) rfl (by omega) (by decide) ?_
  refine fm_aload_n hc d_Mo_write_83 rfl rfl ?_
  refine fm_getR (k := 11) (q := 596) hc K_Mo d_Mo_write_84 q_896 rfl (by decide) (by omega) (by decide) (by decide) (by decide) rfl (rp_left hR) ?_
  refine fm_iload_n hc d_Mo_write_87 rfl rfl ?_
  refine fm_iald (j := j) (len := 4) hc 0 d_Mo_write_88 (by decide) (by omega) (by decide) rfl (by omega) (by decide) ?_
  refine fm_top (congrArg Value.int (show (fm_put1 (fm_put1 M 586 0 (nI 0)) 596 j (nI 0)).1 596 j = nI 0 from (p1_same _ _ _ _))) ?_
  refine fm_if_ne (tgt := 97) hc d_Mo_write_89 rfl (fun gQ => absurd (by decide) gQ) (fun _ => ?_)
  refine fm_aload_n hc d_Mo_write_92 rfl rfl ?_
  refine fm_iload_n hc d_Mo_write_93 rfl rfl ?_
  refine fm_callV (av := [.int (nI j)]) (rest := []) (ob := 586) (ci := 11) (r0 := ("AgentNetModel", F_Mo, 51)) (y := y_Mo_seal) (bytes := b_Mo_seal) hc fm_T0_good (fm_EX_st b x) hex q_1206 q_13 q_1203 q_1205 qs_Mo_seal pd_Mo_seal (by decide) (by omega) (by decide) (by decide) rfl rfl (rc_seal (M := fm_put1 (fm_put1 M 586 0 (nI 0)) 596 j (nI 0)) hn (fun q hq => hR q hq) hj a1 a2 hma hsa a3 a4 hD hO) ⟨rfl, rfl, Nat.le_of_ble_eq_true rfl, Nat.le_of_ble_eq_true rfl⟩ ⟨Nat.le_of_ble_eq_true rfl, Nat.le_of_ble_eq_true rfl⟩ d_Mo_write_94 (Nat.le_of_ble_eq_true rfl) (fun r n2 M2 hp => ?_)
  obtain ⟨rfl, hq1, r1, r2, r3, r4, r5, r6⟩ := hp
  replace hq1 := hq1.symm
  subst hq1
  revert r1 r2 r3 r4 r5 r6
  generalize M2 = Mz
  intro r1 r2 r3 r4 r5 r6
  have hRz : fm_RP Mz := fun q hq => by rw [r5.1]; exact hR q hq
  refine fm_cnt (z' := (0, 0)) rfl (fm_st (st' := []) rfl ?_)
  refine fm_aload_n hc d_Mo_write_97 rfl rfl ?_
  refine fm_getR (k := 11) (q := 596) hc K_Mo d_Mo_write_98 q_896 rfl (by decide) (by omega) (by decide) (by decide) (by decide) rfl (rp_left hRz) ?_
  refine fm_iload_n hc d_Mo_write_101 rfl rfl ?_
  refine fm_iald (j := j) (len := 4) hc 0 d_Mo_write_102 (by decide) (by omega) (by decide) rfl (by omega) (by decide) ?_
  refine fm_top (congrArg Value.int (show Mz.1 596 j = nI 0 from (r6.trans (p1_same _ _ _ _)))) ?_
  exact fm_iret hc hr d_Mo_write_103 (Nat.le_refl _) (Nat.le_refl _) ⟨rfl, rfl, r1, r2, r3, r4, fzR_tr a5 r5, r6.trans (p1_same _ _ _ _)⟩
