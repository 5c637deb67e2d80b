/-! QUERIES on any state: outputs; refusals that were wanting -/
theorem c_valueOf_yes {l : Launch} {b : Nat} {x : Nat → Nat} {D : va_G} {dA : Nat → ClassId} {o q q2 i k : Nat} {n : Nat} {M : fm_M} (h8 : 8 ≤ o) (ho : o < n) (hl : (fm_lay o).1 = 2) (hq8 : 8 ≤ q) (hqn : q < n) (hql : fm_lay q = (100, 8)) (hq0 : M.2.2 o 0 = some q) (hr8 : 8 ≤ q2) (hrn : q2 < n) (hrl : fm_lay q2 = (100, 128)) (hr0 : M.2.2 o 1 = some q2) (hi : i < 8) (hk : k < 16) (hb : ¬ (M.1 q i >>> (nI k &&& 31)) &&& (nI 1) = 0) : Met l y_Sy_valueOf (Cond.code y_Sy_valueOf b_Sy_valueOf 3 (some .long) :: fm_T0) ({ frames := 1, cells := 0, slots := 0, locals := 20 }) (fm_Pc fm_lay fm_nf fm_fk fm_cl b x D dA (fm_tys dA) (fm_EX b x) false [.ref o, .int (nI i), .int (nI k)] n M) (fm_Qc fm_lay fm_nf fm_fk fm_cl b x D dA (fun r n' M' => r = some (.long (M.1 q2 (i * 16 + k)).toInt64) ∧ n' = n ∧ M' = M)) 0 0 (fm_A b) := by
  refine fm_enter (by decide) (Nat.le_of_ble_eq_true rfl) ?_
  intro p e s m args below meth c9 hc hr hnm hex htg
  refine fm_iload_n hc d_Sy_valueOf_0 rfl rfl ?_
  refine fm_callSN (av := [.int (nI i)]) (rest := []) (y := y_An_isAgent) (bytes := b_An_isAgent) hc fm_T0_good (fm_EX_st b x) hex q_416 q_1 (nx_11 hex) q_415 pd_An_isAgent (c_An_isAgent_ok (in8_of hi)) ⟨rfl, rfl, Nat.le_of_ble_eq_true rfl, Nat.le_of_ble_eq_true rfl⟩ ⟨Nat.le_of_ble_eq_true rfl, Nat.le_of_ble_eq_true rfl⟩ d_Sy_valueOf_1 (Nat.le_of_ble_eq_true rfl) (fun r n2 M2 hp => ?_)
  obtain ⟨rfl, hq1, hq2⟩ := hp
  replace hq1 := hq1.symm
  replace hq2 := hq2.symm
  subst hq1 hq2
  refine fm_cnt (z' := (0, 0)) rfl (fm_st (st' := [.int (nI 1)]) rfl ?_)
  refine fm_if_eq (tgt := 30) hc d_Sy_valueOf_4 rfl (fun gQ => absurd gQ (by decide)) (fun _ => ?_)
  refine fm_iload_n hc d_Sy_valueOf_7 rfl rfl ?_
  refine fm_if_lt (tgt := 30) hc d_Sy_valueOf_8 rfl (fun gQ => absurd gQ (nI_pos (by omega))) (fun _ => ?_)
  refine fm_iload_n hc d_Sy_valueOf_11 rfl rfl ?_
  refine fm_bipush (v := nI 16) hc d_Sy_valueOf_12 rfl ?_
  refine fm_icmp_ge (tgt := 30) hc d_Sy_valueOf_14 rfl (fun gQ => absurd gQ (hnleB hk (by decide))) (fun _ => ?_)
  refine fm_aload_n hc d_Sy_valueOf_17 rfl rfl ?_
  refine fm_getR (k := 0) (q := q) hc K_Sy d_Sy_valueOf_18 q_150 rfl h8 ho hl (by decide) (by decide) rfl hq0 ?_
  refine fm_iload_n hc d_Sy_valueOf_21 rfl rfl ?_
  refine fm_iald (j := i) (len := 8) hc 0 d_Sy_valueOf_22 hq8 hqn hql rfl (by omega) (by decide) ?_
  refine fm_iload_n hc d_Sy_valueOf_23 rfl rfl ?_
  refine fm_ishr hc d_Sy_valueOf_24 ?_
  refine fm_iconst (v := nI 1) hc d_Sy_valueOf_25 rfl ?_
  refine fm_iand hc d_Sy_valueOf_26 ?_
  refine fm_if_ne (tgt := 34) hc d_Sy_valueOf_27 rfl (fun _ => ?_) (fun gQ => absurd gQ hb)
  refine fm_aload_n hc d_Sy_valueOf_34 rfl rfl ?_
  refine fm_getR (k := 1) (q := q2) hc K_Sy d_Sy_valueOf_35 q_151 rfl h8 ho hl (by decide) (by decide) rfl hr0 ?_
  refine fm_iload_n hc d_Sy_valueOf_38 rfl rfl ?_
  refine fm_bipush (v := nI 16) hc d_Sy_valueOf_39 rfl ?_
  refine fm_imul hc d_Sy_valueOf_41 ?_
  refine fm_top (congrArg Value.int (pk_mul i 16)) ?_
  refine fm_iload_n hc d_Sy_valueOf_42 rfl rfl ?_
  refine fm_iadd hc d_Sy_valueOf_43 ?_
  refine fm_top (congrArg Value.int (nI_add (i * 16) k)) ?_
  refine fm_iald (j := (i * 16) + k) (len := 128) hc 0 d_Sy_valueOf_44 hr8 hrn hrl rfl (by omega) (by decide) ?_
  refine fm_i2l hc d_Sy_valueOf_45 ?_
  exact fm_lret hc hr d_Sy_valueOf_46 (Nat.le_refl _) (Nat.le_refl _) ⟨rfl, rfl, rfl⟩
theorem c_expected_met {l : Launch} {b : Nat} {x : Nat → Nat} {D : va_G} {dA : Nat → ClassId} {i : Nat} {n : Nat} {M : fm_M} (hn : 586 ≤ n) (hA : fm_AP M) (hi : i < 8) (hmet : M.2.2 69 1 = some 73) (hf0 : M.2.2 69 0 = some 70) (hs : M.2.2 70 0 = some 71) (hu : ¬ M.1 73 i = 0) : Met l y_An_expected (Cond.code y_An_expected b_An_expected 2 (some .int) :: fm_T0) ({ frames := 2, cells := 0, slots := 0, locals := 50 }) (fm_Pc fm_lay fm_nf fm_fk fm_cl b x D dA (fm_tys dA) (fm_EX b x) false [.ref 8, .int (nI i)] n M) (fm_Qc fm_lay fm_nf fm_fk fm_cl b x D dA (fun r n' M' => r = some (.int (bitc (M.1 71 i))) ∧ n' = n ∧ M' = M)) 0 0 (fm_A b) := by
  refine fm_enter (by decide) (Nat.le_of_ble_eq_true rfl) ?_
  intro p e s m args below meth c9 hc hr hnm hex htg
  refine fm_iload_n hc d_An_expected_0 rfl rfl ?_
  refine fm_callS (av := [.int (nI i)]) (rest := []) (y := y_An_isAgent) (bytes := b_An_isAgent) hc fm_T0_good (fm_EX_st b x) hex q_416 q_1 q_414 q_415 pd_An_isAgent (c_An_isAgent_ok (in8_of hi)) ⟨rfl, rfl, Nat.le_of_ble_eq_true rfl, Nat.le_of_ble_eq_true rfl⟩ ⟨Nat.le_of_ble_eq_true rfl, Nat.le_of_ble_eq_true rfl⟩ d_An_expected_1 (Nat.le_of_ble_eq_true rfl) (fun r n2 M2 hp => ?_)
  obtain ⟨rfl, hq1, hq2⟩ := hp
  replace hq1 := hq1.symm
  replace hq2 := hq2.symm
  subst hq1 hq2
  refine fm_cnt (z' := (0, 0)) rfl (fm_st (st' := [.int (nI 1)]) rfl ?_)
  refine fm_if_eq (tgt := 33) hc d_An_expected_4 rfl (fun gQ => absurd gQ (by decide)) (fun _ => ?_)
  refine fm_aload_n hc d_An_expected_7 rfl rfl ?_
  refine fm_getR (k := 6) (q := 69) hc K_An d_An_expected_8 q_361 rfl (by decide) (by omega) (by decide) (by decide) (by decide) rfl (ap_6 hA) ?_
  refine fm_getR (k := 1) (q := 73) hc K_Fr d_An_expected_11 q_259 rfl (by decide) (by omega) (by decide) (by decide) (by decide) rfl hmet ?_
  refine fm_iload_n hc d_An_expected_14 rfl rfl ?_
  refine fm_zald (j := i) (len := 8) hc 1 d_An_expected_15 (by decide) (by omega) (by decide) rfl (by omega) (by decide) ?_
  refine fm_if_eq (tgt := 33) hc d_An_expected_16 rfl (fun gQ => absurd gQ hu) (fun _ => ?_)
  refine fm_aload_n hc d_An_expected_19 rfl rfl ?_
  refine fm_getR (k := 6) (q := 69) hc K_An d_An_expected_20 q_361 rfl (by decide) (by omega) (by decide) (by decide) (by decide) rfl (ap_6 hA) ?_
  refine fm_getR (k := 0) (q := 70) hc K_Fr d_An_expected_23 q_257 rfl (by decide) (by omega) (by decide) (by decide) (by decide) rfl hf0 ?_
  refine fm_iload_n hc d_An_expected_26 rfl rfl ?_
  refine fm_callV (av := [.int (nI i)]) (rest := []) (ob := 70) (ci := 2) (r0 := ("AgentNet$Sayings", F_Sy, 2)) (y := y_Sy_count) (bytes := b_Sy_count) hc fm_T0_good (fm_EX_st b x) hex q_455 q_6 q_452 q_453 q_454 pd_Sy_count (by decide) (by omega) (by decide) (by decide) rfl rfl (c_count (by decide) (by omega) (by decide) (q := 71) (by decide) (by omega) (by decide) hs hi) ⟨rfl, rfl, Nat.le_of_ble_eq_true rfl, Nat.le_of_ble_eq_true rfl⟩ ⟨Nat.le_of_ble_eq_true rfl, Nat.le_of_ble_eq_true rfl⟩ d_An_expected_27 (Nat.le_of_ble_eq_true rfl) (fun r n2 M2 hp => ?_)
  obtain ⟨rfl, hq1, hq2⟩ := hp
  replace hq1 := hq1.symm
  replace hq2 := hq2.symm
  subst hq1 hq2
  refine fm_cnt (z' := (0, 0)) rfl (fm_st (st' := [.int (bitc (M.1 71 i))]) rfl ?_)
  refine fm_goto (tgt := 34) hc d_An_expected_30 rfl ?_
  exact fm_iret hc hr d_An_expected_34 (Nat.le_refl _) (Nat.le_refl _) ⟨rfl, rfl, rfl⟩
theorem r_exp_none {l : Launch} {b : Nat} {x : Nat → Nat} {D : va_G} {dA : Nat → ClassId} {i j p0 f k : Nat} {sc : List Nat} {tb : Nat → Nat → Int32}   {n : Nat} {M : fm_M} (hn : 629 ≤ n) (hR : fm_RP M) (hi : i < 8) (hL : nI (i % 4) < M.1 586 4) (hj : j < 4) (hp0 : p0 < 4) (hf : f ≤ 200) (h590 : M.1 590 (i % 4) = nI j) (h591 : M.1 591 (i % 4) = nI p0) (h592 : M.1 592 (i % 4) = nI f) (hs : hs_R M p0 sc) (htb : ∀ q, q < 4 → ∀ k, k < 8 → M.1 589 (8 * q + k) = tb q k) (hw : fl_W sc tb i p0 f j = none) : Met l y_Mo_expected (Cond.code y_Mo_expected b_Mo_expected 2 (some .int) :: fm_T0) ({ frames := 10, cells := 0, slots := 0, locals := 320 }) (fm_Pc fm_lay fm_nf fm_fk fm_cl b x D dA (fm_tys dA) (fm_EX b x) false [.ref 586, .int (nI i)] n M) (fm_Qc fm_lay fm_nf fm_fk fm_cl b x D dA (fun r n' M' => r = some (.int (-1)) ∧ n' = n ∧ fx_R (fm_put1 M 586 0 (nI 0)) M')) 0 0 (fm_A b) := by
  refine fm_enter (by decide) (Nat.le_of_ble_eq_true rfl) ?_
  intro p e s m args below meth c9 hc hr hnm hex htg
  refine fm_aload_n hc d_Mo_expected_0 rfl rfl ?_
  refine fm_iconst (v := nI 0) hc d_Mo_expected_1 rfl ?_
  refine fm_putI (k := 0) (v := nI 0) hc K_Mo d_Mo_expected_2 q_885 rfl (by decide) (by omega) (by decide) (by decide) (by decide) rfl rfl rfl rfl ?_
  refine fm_mem (M' := fm_put1 M 586 0 (nI 0)) rfl rfl ?_
  refine fm_aload_n hc d_Mo_expected_5 rfl rfl ?_
  refine fm_iload_n hc d_Mo_expected_6 rfl rfl ?_
  refine fm_callV (av := [.int (nI i)]) (rest := []) (ob := 586) (ci := 11) (r0 := ("AgentNetModel", F_Mo, 51)) (y := y_Mo_runAlone) (bytes := b_Mo_runAlone) hc fm_T0_good (fm_EX_st b x) hex q_1274 q_13 q_1271 q_1273 qs_Mo_runAlone pd_Mo_runAlone (by decide) (by omega) (by decide) (by decide) rfl rfl (rc_alone (M := fm_put1 M 586 0 (nI 0)) (sc := sc) (tb := tb) (j := j) (p0 := p0) (f := f) hn (fun q hq => hR q hq) hi (by rw [p1_at (by decide)]; exact hL) hj hp0 hf ((p1_other (by decide)).trans h590) ((p1_other (by decide)).trans h591) ((p1_other (by decide)).trans h592) ⟨(p1_other (by decide)).trans hs.1, hs.2.1, fun k v hv => ⟨(p1_other (by decide)).trans (hs.2.2 k v hv).1, (hs.2.2 k v hv).2⟩⟩ (fun q hq k hk => (p1_other (by decide)).trans (htb q hq k hk))) ⟨rfl, rfl, Nat.le_of_ble_eq_true rfl, Nat.le_of_ble_eq_true rfl⟩ ⟨Nat.le_of_ble_eq_true rfl, Nat.le_of_ble_eq_true rfl⟩ d_Mo_expected_7 (Nat.le_of_ble_eq_true rfl) (fun r n2 M2 hp => ?_)
  obtain ⟨rfl, hq1, y1, y2⟩ := hp
  replace hq1 := hq1.symm
  subst hq1
  rw [hw] at y2 ⊢
  revert y1 y2
  generalize M2 = Ma
  intro y1 y2
  have hRa := fxR_RP y1 (fun q hq => hR q hq)
  refine fm_cnt (z' := (0, 0)) rfl (fm_st (st' := [.int (nI 0)]) rfl ?_)
  refine fm_if_eq (tgt := 20) hc d_Mo_expected_10 rfl (fun _ => ?_) (fun gQ => absurd (by decide) gQ)
  refine fm_iconst (v := (-1)) hc d_Mo_expected_20 rfl ?_
  exact fm_iret hc hr d_Mo_expected_21 (Nat.le_refl _) (Nat.le_refl _) ⟨rfl, rfl, y1⟩
theorem r_exp_some {l : Launch} {b : Nat} {x : Nat → Nat} {D : va_G} {dA : Nat → ClassId} {i j p0 f k : Nat} {sc : List Nat} {tb : Nat → Nat → Int32} {W : List Int32}  {n : Nat} {M : fm_M} (hn : 629 ≤ n) (hR : fm_RP M) (hi : i < 8) (hL : nI (i % 4) < M.1 586 4) (hj : j < 4) (hp0 : p0 < 4) (hf : f ≤ 200) (h590 : M.1 590 (i % 4) = nI j) (h591 : M.1 591 (i % 4) = nI p0) (h592 : M.1 592 (i % 4) = nI f) (hs : hs_R M p0 sc) (htb : ∀ q, q < 4 → ∀ k, k < 8 → M.1 589 (8 * q + k) = tb q k) (hw : fl_W sc tb i p0 f j = some W) : Met l y_Mo_expected (Cond.code y_Mo_expected b_Mo_expected 2 (some .int) :: fm_T0) ({ frames := 10, cells := 0, slots := 0, locals := 320 }) (fm_Pc fm_lay fm_nf fm_fk fm_cl b x D dA (fm_tys dA) (fm_EX b x) false [.ref 586, .int (nI i)] n M) (fm_Qc fm_lay fm_nf fm_fk fm_cl b x D dA (fun r n' M' => r = some (.int (nI W.length)) ∧ n' = n ∧ fx_R (fm_put1 M 586 0 (nI 0)) M')) 0 0 (fm_A b) := by
  refine fm_enter (by decide) (Nat.le_of_ble_eq_true rfl) ?_
  intro p e s m args below meth c9 hc hr hnm hex htg
  refine fm_aload_n hc d_Mo_expected_0 rfl rfl ?_
  refine fm_iconst (v := nI 0) hc d_Mo_expected_1 rfl ?_
  refine fm_putI (k := 0) (v := nI 0) hc K_Mo d_Mo_expected_2 q_885 rfl (by decide) (by omega) (by decide) (by decide) (by decide) rfl rfl rfl rfl ?_
  refine fm_mem (M' := fm_put1 M 586 0 (nI 0)) rfl rfl ?_
  refine fm_aload_n hc d_Mo_expected_5 rfl rfl ?_
  refine fm_iload_n hc d_Mo_expected_6 rfl rfl ?_
  refine fm_callV (av := [.int (nI i)]) (rest := []) (ob := 586) (ci := 11) (r0 := ("AgentNetModel", F_Mo, 51)) (y := y_Mo_runAlone) (bytes := b_Mo_runAlone) hc fm_T0_good (fm_EX_st b x) hex q_1274 q_13 q_1271 q_1273 qs_Mo_runAlone pd_Mo_runAlone (by decide) (by omega) (by decide) (by decide) rfl rfl (rc_alone (M := fm_put1 M 586 0 (nI 0)) (sc := sc) (tb := tb) (j := j) (p0 := p0) (f := f) hn (fun q hq => hR q hq) hi (by rw [p1_at (by decide)]; exact hL) hj hp0 hf ((p1_other (by decide)).trans h590) ((p1_other (by decide)).trans h591) ((p1_other (by decide)).trans h592) ⟨(p1_other (by decide)).trans hs.1, hs.2.1, fun k v hv => ⟨(p1_other (by decide)).trans (hs.2.2 k v hv).1, (hs.2.2 k v hv).2⟩⟩ (fun q hq k hk => (p1_other (by decide)).trans (htb q hq k hk))) ⟨rfl, rfl, Nat.le_of_ble_eq_true rfl, Nat.le_of_ble_eq_true rfl⟩ ⟨Nat.le_of_ble_eq_true rfl, Nat.le_of_ble_eq_true rfl⟩ d_Mo_expected_7 (Nat.le_of_ble_eq_true rfl) (fun r n2 M2 hp => ?_)
  obtain ⟨rfl, hq1, y1, y2⟩ := hp
  replace hq1 := hq1.symm
  subst hq1
  rw [hw] at y2 ⊢
  revert y1 y2
  generalize M2 = Ma
  intro y1 y2
  have hRa := fxR_RP y1 (fun q hq => hR q hq)
  obtain ⟨w1, w2, w3⟩ := y2 W rfl
  refine fm_cnt (z' := (0, 0)) rfl (fm_st (st' := [.int (nI 1)]) rfl ?_)
  refine fm_if_eq (tgt := 20) hc d_Mo_expected_10 rfl (fun gQ => absurd gQ (by decide)) (fun _ => ?_)
  refine fm_aload_n hc d_Mo_expected_13 rfl rfl ?_
  refine fm_getI (k := 48) hc K_Mo d_Mo_expected_14 q_933 rfl (by decide) (by omega) (by decide) (by decide) (by decide) rfl ?_
  refine fm_top (congrArg Value.int (show Ma.1 586 48 = nI W.length from w1)) ?_
  refine fm_goto (tgt := 21) hc d_Mo_expected_17 rfl ?_
  exact fm_iret hc hr d_Mo_expected_21 (Nat.le_refl _) (Nat.le_refl _) ⟨rfl, rfl, y1⟩
theorem r_exo_none {l : Launch} {b : Nat} {x : Nat → Nat} {D : va_G} {dA : Nat → ClassId} {i j p0 f k : Nat} {sc : List Nat} {tb : Nat → Nat → Int32}  {w : Int32} {n : Nat} {M : fm_M} (hn : 629 ≤ n) (hR : fm_RP M) (hi : i < 8) (hL : nI (i % 4) < M.1 586 4) (hj : j < 4) (hp0 : p0 < 4) (hf : f ≤ 200) (h590 : M.1 590 (i % 4) = nI j) (h591 : M.1 591 (i % 4) = nI p0) (h592 : M.1 592 (i % 4) = nI f) (hs : hs_R M p0 sc) (htb : ∀ q, q < 4 → ∀ k, k < 8 → M.1 589 (8 * q + k) = tb q k) (hw : fl_W sc tb i p0 f j = none) : Met l y_Mo_expectedOutput (Cond.code y_Mo_expectedOutput b_Mo_expectedOutput 3 (some .long) :: fm_T0) ({ frames := 10, cells := 0, slots := 0, locals := 320 }) (fm_Pc fm_lay fm_nf fm_fk fm_cl b x D dA (fm_tys dA) (fm_EX b x) false [.ref 586, .int (nI i), .int w] n M) (fm_Qc fm_lay fm_nf fm_fk fm_cl b x D dA (fun r n' M' => r = some (.long 1099511627776) ∧ n' = n ∧ fx_R (fm_put1 M 586 0 (nI 0)) M')) 0 0 (fm_A b) := by
  refine fm_enter (by decide) (Nat.le_of_ble_eq_true rfl) ?_
  intro p e s m args below meth c9 hc hr hnm hex htg
  refine fm_aload_n hc d_Mo_expectedOutput_0 rfl rfl ?_
  refine fm_iconst (v := nI 0) hc d_Mo_expectedOutput_1 rfl ?_
  refine fm_putI (k := 0) (v := nI 0) hc K_Mo d_Mo_expectedOutput_2 q_885 rfl (by decide) (by omega) (by decide) (by decide) (by decide) rfl rfl rfl rfl ?_
  refine fm_mem (M' := fm_put1 M 586 0 (nI 0)) rfl rfl ?_
  refine fm_aload_n hc d_Mo_expectedOutput_5 rfl rfl ?_
  refine fm_iload_n hc d_Mo_expectedOutput_6 rfl rfl ?_
  refine fm_callV (av := [.int (nI i)]) (rest := []) (ob := 586) (ci := 11) (r0 := ("AgentNetModel", F_Mo, 51)) (y := y_Mo_runAlone) (bytes := b_Mo_runAlone) hc fm_T0_good (fm_EX_st b x) hex q_1274 q_13 q_1271 q_1273 qs_Mo_runAlone pd_Mo_runAlone (by decide) (by omega) (by decide) (by decide) rfl rfl (rc_alone (M := fm_put1 M 586 0 (nI 0)) (sc := sc) (tb := tb) (j := j) (p0 := p0) (f := f) hn (fun q hq => hR q hq) hi (by rw [p1_at (by decide)]; exact hL) hj hp0 hf ((p1_other (by decide)).trans h590) ((p1_other (by decide)).trans h591) ((p1_other (by decide)).trans h592) ⟨(p1_other (by decide)).trans hs.1, hs.2.1, fun k v hv => ⟨(p1_other (by decide)).trans (hs.2.2 k v hv).1, (hs.2.2 k v hv).2⟩⟩ (fun q hq k hk => (p1_other (by decide)).trans (htb q hq k hk))) ⟨rfl, rfl, Nat.le_of_ble_eq_true rfl, Nat.le_of_ble_eq_true rfl⟩ ⟨Nat.le_of_ble_eq_true rfl, Nat.le_of_ble_eq_true rfl⟩ d_Mo_expectedOutput_7 (Nat.le_of_ble_eq_true rfl) (fun r n2 M2 hp => ?_)
  obtain ⟨rfl, hq1, y1, y2⟩ := hp
  replace hq1 := hq1.symm
  subst hq1
  rw [hw] at y2 ⊢
  revert y1 y2
  generalize M2 = Ma
  intro y1 y2
  have hRa := fxR_RP y1 (fun q hq => hR q hq)
  refine fm_cnt (z' := (0, 0)) rfl (fm_st (st' := [.int (nI 0)]) rfl ?_)
  refine fm_if_eq (tgt := 37) hc d_Mo_expectedOutput_10 rfl (fun _ => ?_) (fun gQ => absurd (by decide) gQ)
  refine fm_ldc2 (v := 1099511627776) hc d_Mo_expectedOutput_37 q_1098 ?_
  exact fm_lret hc hr d_Mo_expectedOutput_40 (Nat.le_refl _) (Nat.le_refl _) ⟨rfl, rfl, y1⟩
theorem r_exo_out {l : Launch} {b : Nat} {x : Nat → Nat} {D : va_G} {dA : Nat → ClassId} {i j p0 f k : Nat} {sc : List Nat} {tb : Nat → Nat → Int32} {W : List Int32} {w : Int32} {n : Nat} {M : fm_M} (hn : 629 ≤ n) (hR : fm_RP M) (hi : i < 8) (hL : nI (i % 4) < M.1 586 4) (hj : j < 4) (hp0 : p0 < 4) (hf : f ≤ 200) (h590 : M.1 590 (i % 4) = nI j) (h591 : M.1 591 (i % 4) = nI p0) (h592 : M.1 592 (i % 4) = nI f) (hs : hs_R M p0 sc) (htb : ∀ q, q < 4 → ∀ k, k < 8 → M.1 589 (8 * q + k) = tb q k) (hw : fl_W sc tb i p0 f j = some W) (hx : ¬ fm_wi w (nI 0) (nI W.length - nI 1)) : Met l y_Mo_expectedOutput (Cond.code y_Mo_expectedOutput b_Mo_expectedOutput 3 (some .long) :: fm_T0) ({ frames := 10, cells := 0, slots := 0, locals := 320 }) (fm_Pc fm_lay fm_nf fm_fk fm_cl b x D dA (fm_tys dA) (fm_EX b x) false [.ref 586, .int (nI i), .int w] n M) (fm_Qc fm_lay fm_nf fm_fk fm_cl b x D dA (fun r n' M' => r = some (.long 1099511627776) ∧ n' = n ∧ fx_R (fm_put1 M 586 0 (nI 0)) M')) 0 0 (fm_A b) := by
  refine fm_enter (by decide) (Nat.le_of_ble_eq_true rfl) ?_
  intro p e s m args below meth c9 hc hr hnm hex htg
  refine fm_aload_n hc d_Mo_expectedOutput_0 rfl rfl ?_
  refine fm_iconst (v := nI 0) hc d_Mo_expectedOutput_1 rfl ?_
  refine fm_putI (k := 0) (v := nI 0) hc K_Mo d_Mo_expectedOutput_2 q_885 rfl (by decide) (by omega) (by decide) (by decide) (by decide) rfl rfl rfl rfl ?_
  refine fm_mem (M' := fm_put1 M 586 0 (nI 0)) rfl rfl ?_
  refine fm_aload_n hc d_Mo_expectedOutput_5 rfl rfl ?_
  refine fm_iload_n hc d_Mo_expectedOutput_6 rfl rfl ?_
  refine fm_callV (av := [.int (nI i)]) (rest := []) (ob := 586) (ci := 11) (r0 := ("AgentNetModel", F_Mo, 51)) (y := y_Mo_runAlone) (bytes := b_Mo_runAlone) hc fm_T0_good (fm_EX_st b x) hex q_1274 q_13 q_1271 q_1273 qs_Mo_runAlone pd_Mo_runAlone (by decide) (by omega) (by decide) (by decide) rfl rfl (rc_alone (M := fm_put1 M 586 0 (nI 0)) (sc := sc) (tb := tb) (j := j) (p0 := p0) (f := f) hn (fun q hq => hR q hq) hi (by rw [p1_at (by decide)]; exact hL) hj hp0 hf ((p1_other (by decide)).trans h590) ((p1_other (by decide)).trans h591) ((p1_other (by decide)).trans h592) ⟨(p1_other (by decide)).trans hs.1, hs.2.1, fun k v hv => ⟨(p1_other (by decide)).trans (hs.2.2 k v hv).1, (hs.2.2 k v hv).2⟩⟩ (fun q hq k hk => (p1_other (by decide)).trans (htb q hq k hk))) ⟨rfl, rfl, Nat.le_of_ble_eq_true rfl, Nat.le_of_ble_eq_true rfl⟩ ⟨Nat.le_of_ble_eq_true rfl, Nat.le_of_ble_eq_true rfl⟩ d_Mo_expectedOutput_7 (Nat.le_of_ble_eq_true rfl) (fun r n2 M2 hp => ?_)
  obtain ⟨rfl, hq1, y1, y2⟩ := hp
  replace hq1 := hq1.symm
  subst hq1
  rw [hw] at y2 ⊢
  revert y1 y2
  generalize M2 = Ma
  intro y1 y2
  have hRa := fxR_RP y1 (fun q hq => hR q hq)
  obtain ⟨w1, w2, w3⟩ := y2 W rfl
  refine fm_cnt (z' := (0, 0)) rfl (fm_st (st' := [.int (nI 1)]) rfl ?_)
  refine fm_if_eq (tgt := 37) hc d_Mo_expectedOutput_10 rfl (fun gQ => absurd gQ (by decide)) (fun _ => ?_)
  refine fm_iload_n hc d_Mo_expectedOutput_13 rfl rfl ?_
  refine fm_iconst (v := nI 0) hc d_Mo_expectedOutput_14 rfl ?_
  refine fm_aload_n hc d_Mo_expectedOutput_15 rfl rfl ?_
  refine fm_getI (k := 48) hc K_Mo d_Mo_expectedOutput_16 q_933 rfl (by decide) (by omega) (by decide) (by decide) (by decide) rfl ?_
  refine fm_top (congrArg Value.int (show Ma.1 586 48 = nI W.length from w1)) ?_
  refine fm_iconst (v := nI 1) hc d_Mo_expectedOutput_19 rfl ?_
  refine fm_isub hc d_Mo_expectedOutput_20 ?_
  refine fm_callS (av := [.int w, .int (nI 0), .int ((nI W.length) - (nI 1))]) (rest := []) (y := y_Mo_within) (bytes := b_Mo_within) hc fm_T0_good (fm_EX_st b x) hex q_1049 q_13 q_1047 q_1048 pd_Mo_within (c_Mo_within_no hx) ⟨rfl, rfl, Nat.le_of_ble_eq_true rfl, Nat.le_of_ble_eq_true rfl⟩ ⟨Nat.le_of_ble_eq_true rfl, Nat.le_of_ble_eq_true rfl⟩ d_Mo_expectedOutput_21 (Nat.le_of_ble_eq_true rfl) (fun r n2 M2 hp => ?_)
  obtain ⟨rfl, hq1, hq2⟩ := hp
  replace hq1 := hq1.symm
  replace hq2 := hq2.symm
  subst hq1 hq2
  refine fm_cnt (z' := (0, 0)) rfl (fm_st (st' := [.int (nI 0)]) rfl ?_)
  refine fm_if_eq (tgt := 37) hc d_Mo_expectedOutput_24 rfl (fun _ => ?_) (fun gQ => absurd (by decide) gQ)
  refine fm_ldc2 (v := 1099511627776) hc d_Mo_expectedOutput_37 q_1098 ?_
  exact fm_lret hc hr d_Mo_expectedOutput_40 (Nat.le_refl _) (Nat.le_refl _) ⟨rfl, rfl, y1⟩
theorem r_exo_in {l : Launch} {b : Nat} {x : Nat → Nat} {D : va_G} {dA : Nat → ClassId} {i j p0 f k : Nat} {sc : List Nat} {tb : Nat → Nat → Int32} {W : List Int32}  {n : Nat} {M : fm_M} (hn : 629 ≤ n) (hR : fm_RP M) (hi : i < 8) (hL : nI (i % 4) < M.1 586 4) (hj : j < 4) (hp0 : p0 < 4) (hf : f ≤ 200) (h590 : M.1 590 (i % 4) = nI j) (h591 : M.1 591 (i % 4) = nI p0) (h592 : M.1 592 (i % 4) = nI f) (hs : hs_R M p0 sc) (htb : ∀ q, q < 4 → ∀ k, k < 8 → M.1 589 (8 * q + k) = tb q k) (hw : fl_W sc tb i p0 f j = some W) {v : Int32} (hk : W[k]? = some v) (hk16 : k < 16) (hx : fm_wi (nI k) (nI 0) (nI W.length - nI 1)) : Met l y_Mo_expectedOutput (Cond.code y_Mo_expectedOutput b_Mo_expectedOutput 3 (some .long) :: fm_T0) ({ frames := 10, cells := 0, slots := 0, locals := 320 }) (fm_Pc fm_lay fm_nf fm_fk fm_cl b x D dA (fm_tys dA) (fm_EX b x) false [.ref 586, .int (nI i), .int (nI k)] n M) (fm_Qc fm_lay fm_nf fm_fk fm_cl b x D dA (fun r n' M' => r = some (.long v.toInt64) ∧ n' = n ∧ fx_R (fm_put1 M 586 0 (nI 0)) M')) 0 0 (fm_A b) := by
  refine fm_enter (by decide) (Nat.le_of_ble_eq_true rfl) ?_
  intro p e s m args below meth c9 hc hr hnm hex htg
  refine fm_aload_n hc d_Mo_expectedOutput_0 rfl rfl ?_
  refine fm_iconst (v := nI 0) hc d_Mo_expectedOutput_1 rfl ?_
  refine fm_putI (k := 0) (v := nI 0) hc K_Mo d_Mo_expectedOutput_2 q_885 rfl (by decide) (by omega) (by decide) (by decide) (by decide) rfl rfl rfl rfl ?_
  refine fm_mem (M' := fm_put1 M 586 0 (nI 0)) rfl rfl ?_
  refine fm_aload_n hc d_Mo_expectedOutput_5 rfl rfl ?_
  refine fm_iload_n hc d_Mo_expectedOutput_6 rfl rfl ?_
  refine fm_callV (av := [.int (nI i)]) (rest := []) (ob := 586) (ci := 11) (r0 := ("AgentNetModel", F_Mo, 51)) (y := y_Mo_runAlone) (bytes := b_Mo_runAlone) hc fm_T0_good (fm_EX_st b x) hex q_1274 q_13 q_1271 q_1273 qs_Mo_runAlone pd_Mo_runAlone (by decide) (by omega) (by decide) (by decide) rfl rfl (rc_alone (M := fm_put1 M 586 0 (nI 0)) (sc := sc) (tb := tb) (j := j) (p0 := p0) (f := f) hn (fun q hq => hR q hq) hi (by rw [p1_at (by decide)]; exact hL) hj hp0 hf ((p1_other (by decide)).trans h590) ((p1_other (by decide)).trans h591) ((p1_other (by decide)).trans h592) ⟨(p1_other (by decide)).trans hs.1, hs.2.1, fun k v hv => ⟨(p1_other (by decide)).trans (hs.2.2 k v hv).1, (hs.2.2 k v hv).2⟩⟩ (fun q hq k hk => (p1_other (by decide)).trans (htb q hq k hk))) ⟨rfl, rfl, Nat.le_of_ble_eq_true rfl, Nat.le_of_ble_eq_true rfl⟩ ⟨Nat.le_of_ble_eq_true rfl, Nat.le_of_ble_eq_true rfl⟩ d_Mo_expectedOutput_7 (Nat.le_of_ble_eq_true rfl) (fun r n2 M2 hp => ?_)
  obtain ⟨rfl, hq1, y1, y2⟩ := hp
  replace hq1 := hq1.symm
  subst hq1
  rw [hw] at y2 ⊢
  revert y1 y2
  generalize M2 = Ma
  intro y1 y2
  have hRa := fxR_RP y1 (fun q hq => hR q hq)
  obtain ⟨w1, w2, w3⟩ := y2 W rfl
  refine fm_cnt (z' := (0, 0)) rfl (fm_st (st' := [.int (nI 1)]) rfl ?_)
  refine fm_if_eq (tgt := 37) hc d_Mo_expectedOutput_10 rfl (fun gQ => absurd gQ (by decide)) (fun _ => ?_)
  refine fm_iload_n hc d_Mo_expectedOutput_13 rfl rfl ?_
  refine fm_iconst (v := nI 0) hc d_Mo_expectedOutput_14 rfl ?_
  refine fm_aload_n hc d_Mo_expectedOutput_15 rfl rfl ?_
  refine fm_getI (k := 48) hc K_Mo d_Mo_expectedOutput_16 q_933 rfl (by decide) (by omega) (by decide) (by decide) (by decide) rfl ?_
  refine fm_top (congrArg Value.int (show Ma.1 586 48 = nI W.length from w1)) ?_
  refine fm_iconst (v := nI 1) hc d_Mo_expectedOutput_19 rfl ?_
  refine fm_isub hc d_Mo_expectedOutput_20 ?_
  refine fm_callS (av := [.int (nI k), .int (nI 0), .int ((nI W.length) - (nI 1))]) (rest := []) (y := y_Mo_within) (bytes := b_Mo_within) hc fm_T0_good (fm_EX_st b x) hex q_1049 q_13 q_1047 q_1048 pd_Mo_within (c_Mo_within_ok hx) ⟨rfl, rfl, Nat.le_of_ble_eq_true rfl, Nat.le_of_ble_eq_true rfl⟩ ⟨Nat.le_of_ble_eq_true rfl, Nat.le_of_ble_eq_true rfl⟩ d_Mo_expectedOutput_21 (Nat.le_of_ble_eq_true rfl) (fun r n2 M2 hp => ?_)
  obtain ⟨rfl, hq1, hq2⟩ := hp
  replace hq1 := hq1.symm
  replace hq2 := hq2.symm
  subst hq1 hq2
  refine fm_cnt (z' := (0, 0)) rfl (fm_st (st' := [.int (nI 1)]) rfl ?_)
  refine fm_if_eq (tgt := 37) hc d_Mo_expectedOutput_24 rfl (fun gQ => absurd gQ (by decide)) (fun _ => ?_)
  refine fm_aload_n hc d_Mo_expectedOutput_27 rfl rfl ?_
  refine fm_getR (k := 49) (q := 628) hc K_Mo d_Mo_expectedOutput_28 q_934 rfl (by decide) (by omega) (by decide) (by decide) (by decide) rfl (rp_freeWords hRa) ?_
  refine fm_iload_n hc d_Mo_expectedOutput_31 rfl rfl ?_
  refine fm_iald (j := k) (len := 16) hc 0 d_Mo_expectedOutput_32 (by decide) (by omega) (by decide) rfl (by omega) (by decide) ?_
  refine fm_top (congrArg Value.int (show Ma.1 628 k = v from (w3 k v hk))) ?_
  refine fm_i2l hc d_Mo_expectedOutput_33 ?_
  refine fm_goto (tgt := 40) hc d_Mo_expectedOutput_34 rfl ?_
  exact fm_lret hc hr d_Mo_expectedOutput_40 (Nat.le_refl _) (Nat.le_refl _) ⟨rfl, rfl, y1⟩
theorem x_launch_four {l : Launch} {b : Nat} {x : Nat → Nat} {D : va_G} {dA : Nat → ClassId} (htr : l.stackTraces = false) {j p0 : Nat} {u : Int32} {n : Nat} {M : fm_M} (hn : 586 ≤ n) (hA : fm_AP M) (hj : j < 4) (hp0 : p0 < 4) (hw : ¬ u < nI 1 ∧ u ≤ nI 200) (hu : ¬ M.1 (90 + 124 * j) 1 = 0) (hL : M.1 8 7 = nI 4) : MetFree l y_An_launch (headSpec (Cond.code y_An_launch b_An_launch 6 (some .int) :: fm_T0) ({ frames := 6, cells := 1, slots := 6, locals := 90 })) (fm_Pc fm_lay fm_nf fm_fk fm_cl b x D dA (fm_tys dA) (fm_EX b x) false [.ref 8, .int (nI j), .int (nI p0), .int u] n M) (fun _ _ _ _ _ => True) (fx_Q fm_lay fm_nf fm_fk fm_cl b x D dA (fun _ _ _ => False) (fun E n' M' => E = fx_ISE ∧ n' = n ∧ M' = M) 1 6) := by
  refine fx_enter (by decide) (Nat.le_of_ble_eq_true rfl) ?_
  intro p e s m args below meth c9 hc hr hnm hex htg htab
  refine fm_iload_n hc d_An_launch_0 rfl rfl ?_
  refine fm_callS (av := [.int (nI j)]) (rest := []) (y := y_An_isHost) (bytes := b_An_isHost) hc fm_T0_good (fm_EX_st b x) hex q_397 q_1 q_395 q_396 pd_An_isHost (c_An_isHost_ok (in4_of hj)) ⟨rfl, rfl, Nat.le_of_ble_eq_true rfl, Nat.le_of_ble_eq_true rfl⟩ ⟨Nat.le_of_ble_eq_true rfl, Nat.le_of_ble_eq_true rfl⟩ d_An_launch_1 (Nat.le_of_ble_eq_true rfl) (fun r n2 M2 hp => ?_)
  obtain ⟨rfl, hq1, hq2⟩ := hp
  replace hq1 := hq1.symm
  replace hq2 := hq2.symm
  subst hq1 hq2
  refine fm_cnt (z' := (0, 0)) rfl (fm_st (st' := [.int (nI 1)]) rfl ?_)
  refine fm_if_eq (tgt := 26) hc d_An_launch_4 rfl (fun gQ => absurd gQ (by decide)) (fun _ => ?_)
  refine fm_iload_n hc d_An_launch_7 rfl rfl ?_
  refine fm_callS (av := [.int (nI p0)]) (rest := []) (y := y_An_isProgram) (bytes := b_An_isProgram) hc fm_T0_good (fm_EX_st b x) hex q_386 q_1 q_384 q_385 pd_An_isProgram (c_An_isProgram_ok (in4_of hp0)) ⟨rfl, rfl, Nat.le_of_ble_eq_true rfl, Nat.le_of_ble_eq_true rfl⟩ ⟨Nat.le_of_ble_eq_true rfl, Nat.le_of_ble_eq_true rfl⟩ d_An_launch_8 (Nat.le_of_ble_eq_true rfl) (fun r n2 M2 hp => ?_)
  obtain ⟨rfl, hq1, hq2⟩ := hp
  replace hq1 := hq1.symm
  replace hq2 := hq2.symm
  subst hq1 hq2
  refine fm_cnt (z' := (0, 0)) rfl (fm_st (st' := [.int (nI 1)]) rfl ?_)
  refine fm_if_eq (tgt := 26) hc d_An_launch_11 rfl (fun gQ => absurd gQ (by decide)) (fun _ => ?_)
  refine fm_iload_n hc d_An_launch_14 rfl rfl ?_
  refine fm_iconst (v := nI 1) hc d_An_launch_15 rfl ?_
  refine fm_icmp_lt (tgt := 26) hc d_An_launch_16 rfl (fun gQ => absurd gQ hw.1) (fun _ => ?_)
  refine fm_iload_n hc d_An_launch_19 rfl rfl ?_
  refine fm_sipush (v := nI 200) hc d_An_launch_20 rfl ?_
  refine fm_icmp_le (tgt := 34) hc d_An_launch_23 rfl (fun _ => ?_) (fun gQ => absurd hw.2 gQ)
  refine fm_aload_n hc d_An_launch_34 rfl rfl ?_
  refine fm_getR (k := 2) (q := 15) hc K_An d_An_launch_35 q_357 rfl (by decide) (by omega) (by decide) (by decide) (by decide) rfl (ap_2 hA) ?_
  refine fm_iload_n hc d_An_launch_38 rfl rfl ?_
  refine fm_aald (q := 90 + 124 * j) (j := j) (len := 4) hc 5 d_An_launch_39 (by decide) (by omega) (by decide) (by decide) rfl (by omega) (by decide) (ap_site hA hj) ?_
  refine fm_getI (k := 1) hc K_Si d_An_launch_40 q_334 rfl (by omega) (by omega) (ly_Si hj) (by decide) (by decide) rfl ?_
  refine fm_if_eq (tgt := 54) hc d_An_launch_43 rfl (fun gQ => absurd gQ hu) (fun _ => ?_)
  refine fm_aload_n hc d_An_launch_46 rfl rfl ?_
  refine fm_getI (k := 7) hc K_An d_An_launch_47 q_362 rfl (by decide) (by omega) (by decide) (by decide) (by decide) rfl ?_
  refine fm_iconst (v := nI 4) hc d_An_launch_50 rfl ?_
  refine fm_icmp_lt (tgt := 62) hc d_An_launch_51 rfl (fun gQ => absurd gQ (by rw [hL]; decide)) (fun _ => ?_)
  exact fx_throw hc htr hex.2.2.2.2 (E := fx_ISE) (List.mem_of_getElem? (i := 1) rfl) fx_own_ISE q_552 q_553 q_18 d_An_launch_54 d_An_launch_57 d_An_launch_58 d_An_launch_61 htab (Nat.le_of_ble_eq_true rfl) (Nat.le_of_ble_eq_true rfl) ⟨Nat.le_of_ble_eq_true rfl, Nat.le_of_ble_eq_true rfl, Nat.le_of_ble_eq_true rfl, Nat.le_of_ble_eq_true rfl⟩ ⟨rfl, rfl, rfl⟩
theorem x_net_full {l : Launch} {b : Nat} {x : Nat → Nat} {D : va_G} {dA : Nat → ClassId} (htr : l.stackTraces = false) {k : Nat} {n : Nat} {M : fm_M} (hn : 586 ≤ n) (hA : fm_AP M) (hk : k < 20) (hl : M.1 16 1 = nI 20) : MetFree l y_An_net (headSpec (Cond.code y_An_net b_An_net 4 (some .int) :: fm_T0) ({ frames := 6, cells := 1, slots := 6, locals := 90 })) (fm_Pc fm_lay fm_nf fm_fk fm_cl b x D dA (fm_tys dA) (fm_EX b x) false [.ref 8, .int (nI k), .int (nI 2)] n M) (fun _ _ _ _ _ => True) (fx_Q fm_lay fm_nf fm_fk fm_cl b x D dA (fun _ _ _ => False) (fun E n' M' => E = fx_ISE ∧ n' = n ∧ M' = M) 1 6) := by
  refine fx_enter (by decide) (Nat.le_of_ble_eq_true rfl) ?_
  intro p e s m args below meth c9 hc hr hnm hex htg htab
  refine fm_iload_n hc d_An_net_0 rfl rfl ?_
  refine fm_if_eq (tgt := 22) hc d_An_net_1 rfl (fun gQ => absurd gQ (by decide)) (fun _ => ?_)
  refine fm_iload_n hc d_An_net_4 rfl rfl ?_
  refine fm_iconst (v := nI 1) hc d_An_net_5 rfl ?_
  refine fm_icmp_eq (tgt := 22) hc d_An_net_6 rfl (fun gQ => absurd gQ (by decide)) (fun _ => ?_)
  refine fm_iload_n hc d_An_net_9 rfl rfl ?_
  refine fm_iconst (v := nI 2) hc d_An_net_10 rfl ?_
  refine fm_icmp_eq (tgt := 22) hc d_An_net_11 rfl (fun _ => ?_) (fun gQ => absurd (by decide) gQ)
  refine fm_aload_n hc d_An_net_22 rfl rfl ?_
  refine fm_getR (k := 3) (q := 16) hc K_An d_An_net_23 q_358 rfl (by decide) (by omega) (by decide) (by decide) (by decide) rfl (ap_3 hA) ?_
  refine fm_iload_n hc d_An_net_26 rfl rfl ?_
  refine fm_callV (av := [.int (nI k)]) (rest := []) (ob := 16) (ci := 4) (r0 := ("AgentNet$Wire", F_Wi, 3)) (y := y_Wi_has) (bytes := b_Wi_has) hc fm_T0_good (fm_EX_st b x) hex q_405 q_2 q_402 q_403 q_404 pd_Wi_has (by decide) (by omega) (by decide) (by decide) rfl rfl (c_Wi_has_ok hn ⟨nI_pos (by omega), by rw [hl]; exact hnleB hk (by omega)⟩) ⟨rfl, rfl, Nat.le_of_ble_eq_true rfl, Nat.le_of_ble_eq_true rfl⟩ ⟨Nat.le_of_ble_eq_true rfl, Nat.le_of_ble_eq_true rfl⟩ d_An_net_27 (Nat.le_of_ble_eq_true rfl) (fun r n2 M2 hp => ?_)
  obtain ⟨rfl, hq1, hq2⟩ := hp
  replace hq1 := hq1.symm
  replace hq2 := hq2.symm
  subst hq1 hq2
  refine fm_cnt (z' := (0, 0)) rfl (fm_st (st' := [.int (nI 1)]) rfl ?_)
  refine fm_if_ne (tgt := 41) hc d_An_net_30 rfl (fun _ => ?_) (fun gQ => absurd gQ (by decide))
  refine fm_iload_n hc d_An_net_41 rfl rfl ?_
  refine fm_iconst (v := nI 2) hc d_An_net_42 rfl ?_
  refine fm_icmp_ne (tgt := 64) hc d_An_net_43 rfl (fun gQ => absurd (by decide) gQ) (fun _ => ?_)
  refine fm_aload_n hc d_An_net_46 rfl rfl ?_
  refine fm_getR (k := 3) (q := 16) hc K_An d_An_net_47 q_358 rfl (by decide) (by omega) (by decide) (by decide) (by decide) rfl (ap_3 hA) ?_
  refine fm_callV (av := []) (rest := []) (ob := 16) (ci := 4) (r0 := ("AgentNet$Wire", F_Wi, 3)) (y := y_Wi_isFull) (bytes := b_Wi_isFull) hc fm_T0_good (fm_EX_st b x) hex q_729 q_2 q_842 q_727 q_728 pd_Wi_isFull (by decide) (by omega) (by decide) (by decide) rfl rfl (c_isFull1 (ln := 20) hn hl (by decide) (by decide)) ⟨rfl, rfl, Nat.le_of_ble_eq_true rfl, Nat.le_of_ble_eq_true rfl⟩ ⟨Nat.le_of_ble_eq_true rfl, Nat.le_of_ble_eq_true rfl⟩ d_An_net_50 (Nat.le_of_ble_eq_true rfl) (fun r n2 M2 hp => ?_)
  obtain ⟨rfl, hq1, hq2⟩ := hp
  replace hq1 := hq1.symm
  replace hq2 := hq2.symm
  subst hq1 hq2
  refine fm_cnt (z' := (0, 0)) rfl (fm_st (st' := [.int (nI 1)]) rfl ?_)
  refine fm_if_eq (tgt := 64) hc d_An_net_53 rfl (fun gQ => absurd gQ (by decide)) (fun _ => ?_)
  exact fx_throw hc htr hex.2.2.2.2 (E := fx_ISE) (List.mem_of_getElem? (i := 1) rfl) fx_own_ISE q_552 q_553 q_18 d_An_net_56 d_An_net_59 d_An_net_60 d_An_net_63 htab (Nat.le_of_ble_eq_true rfl) (Nat.le_of_ble_eq_true rfl) ⟨Nat.le_of_ble_eq_true rfl, Nat.le_of_ble_eq_true rfl, Nat.le_of_ble_eq_true rfl, Nat.le_of_ble_eq_true rfl⟩ ⟨rfl, rfl, rfl⟩
theorem r_launch_four {l : Launch} {b : Nat} {x : Nat → Nat} {D : va_G} {dA : Nat → ClassId} {j p0 : Nat} {u : Int32} {n : Nat} {M : fm_M} (hn : 629 ≤ n) (hR : fm_RP M) (hj : j < 4) (hp0 : p0 < 4) (hf : fm_wi u (nI 1) (nI 200)) (hu : ¬ M.1 595 j = 0) (hL : M.1 586 4 = nI 4) : Met l y_Mo_launch (Cond.code y_Mo_launch b_Mo_launch 4 (some .int) :: fm_T0) ({ frames := 1, cells := 0, slots := 0, locals := 30 }) (fm_Pc fm_lay fm_nf fm_fk fm_cl b x D dA (fm_tys dA) (fm_EX b x) false [.ref 586, .int (nI j), .int (nI p0), .int u] n M) (fm_Qc fm_lay fm_nf fm_fk fm_cl b x D dA (fun r n' M' => r = some (.int (nI 0)) ∧ n' = n ∧ M' = fm_put1 (fm_put1 M 586 0 (nI 0)) 586 0 (nI 2))) 0 0 (fm_A b) := by
  refine fm_enter (by decide) (Nat.le_of_ble_eq_true rfl) ?_
  intro p e s m args below meth c9 hc hr hnm hex htg
  refine fm_aload_n hc d_Mo_launch_0 rfl rfl ?_
  refine fm_iconst (v := nI 0) hc d_Mo_launch_1 rfl ?_
  refine fm_putI (k := 0) (v := nI 0) hc K_Mo d_Mo_launch_2 q_885 rfl (by decide) (by omega) (by decide) (by decide) (by decide) rfl rfl rfl rfl ?_
  refine fm_mem (M' := fm_put1 M 586 0 (nI 0)) rfl rfl ?_
  refine fm_iload_n hc d_Mo_launch_5 rfl rfl ?_
  refine fm_iconst (v := nI 0) hc d_Mo_launch_6 rfl ?_
  refine fm_iconst (v := nI 3) hc d_Mo_launch_7 rfl ?_
  refine fm_callS (av := [.int (nI j), .int (nI 0), .int (nI 3)]) (rest := []) (y := y_Mo_within) (bytes := b_Mo_within) hc fm_T0_good (fm_EX_st b x) hex q_1049 q_13 q_1047 q_1048 pd_Mo_within (c_Mo_within_ok (wi_of4 (in4_of hj))) ⟨rfl, rfl, Nat.le_of_ble_eq_true rfl, Nat.le_of_ble_eq_true rfl⟩ ⟨Nat.le_of_ble_eq_true rfl, Nat.le_of_ble_eq_true rfl⟩ d_Mo_launch_8 (Nat.le_of_ble_eq_true rfl) (fun r n2 M2 hp => ?_)
  obtain ⟨rfl, hq1, hq2⟩ := hp
  replace hq1 := hq1.symm
  replace hq2 := hq2.symm
  subst hq1 hq2
  refine fm_cnt (z' := (0, 0)) rfl (fm_st (st' := [.int (nI 1)]) rfl ?_)
  refine fm_if_eq (tgt := 34) hc d_Mo_launch_11 rfl (fun gQ => absurd gQ (by decide)) (fun _ => ?_)
  refine fm_iload_n hc d_Mo_launch_14 rfl rfl ?_
  refine fm_iconst (v := nI 0) hc d_Mo_launch_15 rfl ?_
  refine fm_iconst (v := nI 3) hc d_Mo_launch_16 rfl ?_
  refine fm_callS (av := [.int (nI p0), .int (nI 0), .int (nI 3)]) (rest := []) (y := y_Mo_within) (bytes := b_Mo_within) hc fm_T0_good (fm_EX_st b x) hex q_1049 q_13 q_1047 q_1048 pd_Mo_within (c_Mo_within_ok (wi_of4 (in4_of hp0))) ⟨rfl, rfl, Nat.le_of_ble_eq_true rfl, Nat.le_of_ble_eq_true rfl⟩ ⟨Nat.le_of_ble_eq_true rfl, Nat.le_of_ble_eq_true rfl⟩ d_Mo_launch_17 (Nat.le_of_ble_eq_true rfl) (fun r n2 M2 hp => ?_)
  obtain ⟨rfl, hq1, hq2⟩ := hp
  replace hq1 := hq1.symm
  replace hq2 := hq2.symm
  subst hq1 hq2
  refine fm_cnt (z' := (0, 0)) rfl (fm_st (st' := [.int (nI 1)]) rfl ?_)
  refine fm_if_eq (tgt := 34) hc d_Mo_launch_20 rfl (fun gQ => absurd gQ (by decide)) (fun _ => ?_)
  refine fm_iload_n hc d_Mo_launch_23 rfl rfl ?_
  refine fm_iconst (v := nI 1) hc d_Mo_launch_24 rfl ?_
  refine fm_sipush (v := nI 200) hc d_Mo_launch_25 rfl ?_
  refine fm_callS (av := [.int u, .int (nI 1), .int (nI 200)]) (rest := []) (y := y_Mo_within) (bytes := b_Mo_within) hc fm_T0_good (fm_EX_st b x) hex q_1049 q_13 q_1047 q_1048 pd_Mo_within (c_Mo_within_ok hf) ⟨rfl, rfl, Nat.le_of_ble_eq_true rfl, Nat.le_of_ble_eq_true rfl⟩ ⟨Nat.le_of_ble_eq_true rfl, Nat.le_of_ble_eq_true rfl⟩ d_Mo_launch_28 (Nat.le_of_ble_eq_true rfl) (fun r n2 M2 hp => ?_)
  obtain ⟨rfl, hq1, hq2⟩ := hp
  replace hq1 := hq1.symm
  replace hq2 := hq2.symm
  subst hq1 hq2
  refine fm_cnt (z' := (0, 0)) rfl (fm_st (st' := [.int (nI 1)]) rfl ?_)
  refine fm_if_ne (tgt := 40) hc d_Mo_launch_31 rfl (fun _ => ?_) (fun gQ => absurd gQ (by decide))
  refine fm_aload_n hc d_Mo_launch_40 rfl rfl ?_
  refine fm_getR (k := 10) (q := 595) hc K_Mo d_Mo_launch_41 q_895 rfl (by decide) (by omega) (by decide) (by decide) (by decide) rfl (rp_up hR) ?_
  refine fm_iload_n hc d_Mo_launch_44 rfl rfl ?_
  refine fm_zald (j := j) (len := 4) hc 1 d_Mo_launch_45 (by decide) (by omega) (by decide) rfl (by omega) (by decide) ?_
  refine fm_if_eq (tgt := 57) hc d_Mo_launch_46 rfl (fun gQ => absurd gQ hu) (fun _ => ?_)
  refine fm_aload_n hc d_Mo_launch_49 rfl rfl ?_
  refine fm_getI (k := 4) hc K_Mo d_Mo_launch_50 q_889 rfl (by decide) (by omega) (by decide) (by decide) (by decide) rfl ?_
  refine fm_iconst (v := nI 4) hc d_Mo_launch_53 rfl ?_
  refine fm_icmp_ne (tgt := 63) hc d_Mo_launch_54 rfl (fun gQ => absurd ((p1_at (by decide)).trans hL) gQ) (fun _ => ?_)
  refine fm_aload_n hc d_Mo_launch_57 rfl rfl ?_
  refine fm_iconst (v := nI 2) hc d_Mo_launch_58 rfl ?_
  refine fm_callV (av := [.int (nI 2)]) (rest := []) (ob := 586) (ci := 11) (r0 := ("AgentNetModel", F_Mo, 51)) (y := y_Mo_refuse) (bytes := b_Mo_refuse) hc fm_T0_good (fm_EX_st b x) hex q_1062 q_13 q_1059 q_1061 qs_Mo_refuse pd_Mo_refuse (by decide) (by omega) (by decide) (by decide) rfl rfl (c_Mo_refuse hn) ⟨rfl, rfl, Nat.le_of_ble_eq_true rfl, Nat.le_of_ble_eq_true rfl⟩ ⟨Nat.le_of_ble_eq_true rfl, Nat.le_of_ble_eq_true rfl⟩ d_Mo_launch_59 (Nat.le_of_ble_eq_true rfl) (fun r n2 M2 hp => ?_)
  obtain ⟨rfl, hq1, hq2⟩ := hp
  replace hq1 := hq1.symm
  replace hq2 := hq2.symm
  subst hq1 hq2
  refine fm_cnt (z' := (0, 0)) rfl (fm_st (st' := [.int (nI 0)]) rfl ?_)
  exact fm_iret hc hr d_Mo_launch_62 (Nat.le_refl _) (Nat.le_refl _) ⟨rfl, rfl, rfl⟩
theorem r_net_full {l : Launch} {b : Nat} {x : Nat → Nat} {D : va_G} {dA : Nat → ClassId} {k : Nat} {n : Nat} {M : fm_M} (hn : 629 ≤ n) (hR : fm_RP M) (hk : k < 20) (hl : M.1 586 37 = nI 20) : Met l y_Mo_net (Cond.code y_Mo_net b_Mo_net 4 (some .int) :: fm_T0) ({ frames := 1, cells := 0, slots := 0, locals := 30 }) (fm_Pc fm_lay fm_nf fm_fk fm_cl b x D dA (fm_tys dA) (fm_EX b x) false [.ref 586, .int (nI k), .int (nI 2)] n M) (fm_Qc fm_lay fm_nf fm_fk fm_cl b x D dA (fun r n' M' => r = some (.int (nI 0)) ∧ n' = n ∧ M' = fm_put1 M 586 0 (nI 3))) 0 0 (fm_A b) := by
  refine fm_enter (by decide) (Nat.le_of_ble_eq_true rfl) ?_
  intro p e s m args below meth c9 hc hr hnm hex htg
  refine fm_aload_n hc d_Mo_net_0 rfl rfl ?_
  refine fm_iload_n hc d_Mo_net_1 rfl rfl ?_
  refine fm_iconst (v := nI 0) hc d_Mo_net_2 rfl ?_
  refine fm_iconst (v := nI 2) hc d_Mo_net_3 rfl ?_
  refine fm_callS (av := [.int (nI 2), .int (nI 0), .int (nI 2)]) (rest := [.ref 586]) (y := y_Mo_within) (bytes := b_Mo_within) hc fm_T0_good (fm_EX_st b x) hex q_1049 q_13 q_1047 q_1048 pd_Mo_within (c_Mo_within_ok ⟨by decide, by decide⟩) ⟨rfl, rfl, Nat.le_of_ble_eq_true rfl, Nat.le_of_ble_eq_true rfl⟩ ⟨Nat.le_of_ble_eq_true rfl, Nat.le_of_ble_eq_true rfl⟩ d_Mo_net_4 (Nat.le_of_ble_eq_true rfl) (fun r n2 M2 hp => ?_)
  obtain ⟨rfl, hq1, hq2⟩ := hp
  replace hq1 := hq1.symm
  replace hq2 := hq2.symm
  subst hq1 hq2
  refine fm_cnt (z' := (0, 0)) rfl (fm_st (st' := [.int (nI 1), .ref 586]) rfl ?_)
  refine fm_if_ne (tgt := 14) hc d_Mo_net_7 rfl (fun _ => ?_) (fun gQ => absurd gQ (by decide))
  refine fm_iload_n hc d_Mo_net_14 rfl rfl ?_
  refine fm_iconst (v := nI 0) hc d_Mo_net_15 rfl ?_
  refine fm_aload_n hc d_Mo_net_16 rfl rfl ?_
  refine fm_getI (k := 37) hc K_Mo d_Mo_net_17 q_922 rfl (by decide) (by omega) (by decide) (by decide) (by decide) rfl ?_
  refine fm_iconst (v := nI 1) hc d_Mo_net_20 rfl ?_
  refine fm_isub hc d_Mo_net_21 ?_
  refine fm_callS (av := [.int (nI k), .int (nI 0), .int ((M.1 586 37) - (nI 1))]) (rest := [.ref 586]) (y := y_Mo_within) (bytes := b_Mo_within) hc fm_T0_good (fm_EX_st b x) hex q_1049 q_13 q_1047 q_1048 pd_Mo_within (c_Mo_within_ok ⟨nI_pos (by omega), by rw [hl]; exact hnltB (a := 19) (c := k) (by omega) (by decide)⟩) ⟨rfl, rfl, Nat.le_of_ble_eq_true rfl, Nat.le_of_ble_eq_true rfl⟩ ⟨Nat.le_of_ble_eq_true rfl, Nat.le_of_ble_eq_true rfl⟩ d_Mo_net_22 (Nat.le_of_ble_eq_true rfl) (fun r n2 M2 hp => ?_)
  obtain ⟨rfl, hq1, hq2⟩ := hp
  replace hq1 := hq1.symm
  replace hq2 := hq2.symm
  subst hq1 hq2
  refine fm_cnt (z' := (0, 0)) rfl (fm_st (st' := [.int (nI 1), .ref 586]) rfl ?_)
  refine fm_if_ne (tgt := 32) hc d_Mo_net_25 rfl (fun _ => ?_) (fun gQ => absurd gQ (by decide))
  refine fm_iload_n hc d_Mo_net_32 rfl rfl ?_
  refine fm_iconst (v := nI 2) hc d_Mo_net_33 rfl ?_
  refine fm_icmp_ne (tgt := 50) hc d_Mo_net_34 rfl (fun gQ => absurd rfl gQ) (fun _ => ?_)
  refine fm_aload_n hc d_Mo_net_37 rfl rfl ?_
  refine fm_getI (k := 37) hc K_Mo d_Mo_net_38 q_922 rfl (by decide) (by omega) (by decide) (by decide) (by decide) rfl ?_
  refine fm_bipush (v := nI 20) hc d_Mo_net_41 rfl ?_
  refine fm_icmp_ne (tgt := 50) hc d_Mo_net_43 rfl (fun gQ => absurd hl gQ) (fun _ => ?_)
  refine fm_iconst (v := nI 3) hc d_Mo_net_46 rfl ?_
  refine fm_goto (tgt := 51) hc d_Mo_net_47 rfl ?_
  refine fm_putI (k := 0) (v := nI 3) hc K_Mo d_Mo_net_51 q_885 rfl (by decide) (by omega) (by decide) (by decide) (by decide) rfl rfl rfl rfl ?_
  refine fm_aload_n hc d_Mo_net_54 rfl rfl ?_
  refine fm_getI (k := 0) hc K_Mo d_Mo_net_55 q_885 rfl (by decide) (by omega) (by decide) (by decide) (by decide) rfl ?_
  refine fm_if_le (tgt := 63) hc d_Mo_net_58 rfl (fun gQ => absurd gQ (by rw [p1_same]; decide)) (fun _ => ?_)
  refine fm_iconst (v := nI 0) hc d_Mo_net_61 rfl ?_
  exact fm_iret hc hr d_Mo_net_62 (Nat.le_refl _) (Nat.le_refl _) ⟨rfl, rfl, rfl⟩
theorem r_checkpoint_busy {l : Launch} {b : Nat} {x : Nat → Nat} {D : va_G} {dA : Nat → ClassId} {j lf : Nat} {n : Nat} {M : fm_M} (hn : 629 ≤ n) (hR : fm_RP M) (hj : j < 4) (hu : ¬ M.1 595 j = 0) (hl : M.1 596 j = nI lf) (hl1 : 1 ≤ lf) (hl9 : lf ≤ 9) : Met l y_Mo_checkpoint (Cond.code y_Mo_checkpoint b_Mo_checkpoint 3 (some .int) :: fm_T0) ({ frames := 3, cells := 0, slots := 0, locals := 80 }) (fm_Pc fm_lay fm_nf fm_fk fm_cl b x D dA (fm_tys dA) (fm_EX b x) false [.ref 586, .int (nI j)] n M) (fm_Qc fm_lay fm_nf fm_fk fm_cl b x D dA (fun r n' M' => r = some (.int (nI 0)) ∧ n' = n ∧ M' = fm_put1 (fm_put1 M 586 0 (nI 0)) 586 0 (nI 2))) 0 0 (fm_A b) := by
  refine fm_enter (by decide) (Nat.le_of_ble_eq_true rfl) ?_
  intro p e s m args below meth c9 hc hr hnm hex htg
  refine fm_aload_n hc d_Mo_checkpoint_0 rfl rfl ?_
  refine fm_aload_n hc d_Mo_checkpoint_1 rfl rfl ?_
  refine fm_iload_n hc d_Mo_checkpoint_2 rfl rfl ?_
  refine fm_iconst (v := nI 1) hc d_Mo_checkpoint_3 rfl ?_
  refine fm_callV (av := [.int (nI j), .int (nI 1)]) (rest := [.ref 586]) (ob := 586) (ci := 11) (r0 := ("AgentNetModel", F_Mo, 51)) (y := y_Mo_wrongAt) (bytes := b_Mo_wrongAt) hc fm_T0_good (fm_EX_st b x) hex q_1078 q_13 q_1075 q_1077 qs_Mo_wrongAt pd_Mo_wrongAt (by decide) (by omega) (by decide) (by decide) rfl rfl (c_wrongAt_fine hn hR hj hu) ⟨rfl, rfl, Nat.le_of_ble_eq_true rfl, Nat.le_of_ble_eq_true rfl⟩ ⟨Nat.le_of_ble_eq_true rfl, Nat.le_of_ble_eq_true rfl⟩ d_Mo_checkpoint_4 (Nat.le_of_ble_eq_true rfl) (fun r n2 M2 hp => ?_)
  obtain ⟨rfl, hq1, hq2⟩ := hp
  replace hq1 := hq1.symm
  replace hq2 := hq2.symm
  subst hq1 hq2
  refine fm_cnt (z' := (0, 0)) rfl (fm_st (st' := [.int (nI 0), .ref 586]) rfl ?_)
  refine fm_putI (k := 0) (v := nI 0) hc K_Mo d_Mo_checkpoint_7 q_885 rfl (by decide) (by omega) (by decide) (by decide) (by decide) rfl rfl rfl rfl ?_
  refine fm_aload_n hc d_Mo_checkpoint_10 rfl rfl ?_
  refine fm_aload_n hc d_Mo_checkpoint_11 rfl rfl ?_
  refine fm_getI (k := 0) hc K_Mo d_Mo_checkpoint_12 q_885 rfl (by decide) (by omega) (by decide) (by decide) (by decide) rfl ?_
  refine fm_if_ne (tgt := 31) hc d_Mo_checkpoint_15 rfl (fun gQ => absurd (p1_same _ _ _ _) gQ) (fun _ => ?_)
  refine fm_aload_n hc d_Mo_checkpoint_18 rfl rfl ?_
  refine fm_getR (k := 11) (q := 596) hc K_Mo d_Mo_checkpoint_19 q_896 rfl (by decide) (by omega) (by decide) (by decide) (by decide) rfl (rp_left hR) ?_
  refine fm_iload_n hc d_Mo_checkpoint_22 rfl rfl ?_
  refine fm_iald (j := j) (len := 4) hc 0 d_Mo_checkpoint_23 (by decide) (by omega) (by decide) rfl (by omega) (by decide) ?_
  refine fm_top (congrArg Value.int (show (fm_put1 M 586 0 (nI 0)).1 596 j = nI lf from ((p1_other (by decide)).trans hl))) ?_
  refine fm_if_le (tgt := 31) hc d_Mo_checkpoint_24 rfl (fun gQ => absurd gQ (hnleB (c := 0) (by omega) (by omega))) (fun _ => ?_)
  refine fm_iconst (v := nI 2) hc d_Mo_checkpoint_27 rfl ?_
  refine fm_goto (tgt := 35) hc d_Mo_checkpoint_28 rfl ?_
  refine fm_putI (k := 0) (v := nI 2) hc K_Mo d_Mo_checkpoint_35 q_885 rfl (by decide) (by omega) (by decide) (by decide) (by decide) rfl rfl rfl rfl ?_
  refine fm_aload_n hc d_Mo_checkpoint_38 rfl rfl ?_
  refine fm_getI (k := 0) hc K_Mo d_Mo_checkpoint_39 q_885 rfl (by decide) (by omega) (by decide) (by decide) (by decide) rfl ?_
  refine fm_if_le (tgt := 47) hc d_Mo_checkpoint_42 rfl (fun gQ => absurd gQ (by rw [p1_same]; decide)) (fun _ => ?_)
  refine fm_iconst (v := nI 0) hc d_Mo_checkpoint_45 rfl ?_
  exact fm_iret hc hr d_Mo_checkpoint_46 (Nat.le_refl _) (Nat.le_refl _) ⟨rfl, rfl, rfl⟩
