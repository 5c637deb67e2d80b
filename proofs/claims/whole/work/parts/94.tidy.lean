/-! THE REFERENCE: renamed, tidy -/
/-- of the agent gi and of the reference's scratch alone something changes -/
def fr_W (gi : Nat) (M M' : fm_M) : Prop := M'.2.2 = M.2.2 ∧ (∀ o j, ¬ (605 ≤ o ∧ o ≤ 614 ∧ j = gi) → o ≠ 617 → o ≠ 618 → ¬ (o = 586 ∧ j = 32) → M'.1 o j = M.1 o j) ∧ (∀ o j, ¬ (o = 613 ∧ 6 * gi ≤ j ∧ j < 6 * gi + 6) → ¬ ((o = 615 ∨ o = 616) ∧ 9 * gi ≤ j ∧ j < 9 * gi + 9) → o ≠ 619 → o ≠ 620 → M'.2.1 o j = M.2.1 o j)
theorem frW_rf (gi : Nat) (M : fm_M) : fr_W gi M M := ⟨rfl, fun _ _ _ _ _ _ => rfl, fun _ _ _ _ _ _ => rfl⟩
theorem frW_tr {gi : Nat} {M M1 M2 : fm_M} (h : fr_W gi M M1) (g : fr_W gi M1 M2) : fr_W gi M M2 := ⟨g.1.trans h.1, fun o j a b c d => (g.2.1 o j a b c d).trans (h.2.1 o j a b c d), fun o j a b c d => (g.2.2 o j a b c d).trans (h.2.2 o j a b c d)⟩
theorem frW_K {gi : Nat} {M M' : fm_M} (h : fr_K M M') : fr_W gi M M' := ⟨by rw [h.1], fun o j _ a b c => h.2 o j a b c, fun o j _ _ _ _ => by rw [h.1]⟩
theorem frW_RP {gi : Nat} {M M' : fm_M} (h : fr_W gi M M') (g : fm_RP M) : fm_RP M' := fun q hq => by rw [h.1]; exact g q hq
theorem frW_p1 {gi : Nat} {M M1 : fm_M} {o j : Nat} {v : Int32} (ho : (605 ≤ o ∧ o ≤ 614 ∧ j = gi) ∨ o = 617 ∨ o = 618 ∨ (o = 586 ∧ j = 32)) (h : fr_W gi M M1) : fr_W gi M (fm_put1 M1 o j v) := frW_tr h ⟨rfl, fun q i a b c d => by
  by_cases e : q = o
  · subst e
    exact p1_at (fun e2 => by subst e2; omega)
  · exact p1_other e, fun _ _ _ _ _ _ => rfl⟩
theorem frW_p2 {gi : Nat} {M M1 : fm_M} {o j : Nat} {v : Int64} (ho : (o = 613 ∧ 6 * gi ≤ j ∧ j < 6 * gi + 6) ∨ ((o = 615 ∨ o = 616) ∧ 9 * gi ≤ j ∧ j < 9 * gi + 9) ∨ o = 619 ∨ o = 620) (h : fr_W gi M M1) : fr_W gi M (fm_put2 M1 o j v) := frW_tr h ⟨rfl, fun _ _ _ _ _ _ => rfl, fun q i a b c d => by
  by_cases e : q = o
  · subst e
    exact p2_at (fun e2 => by subst e2; omega)
  · exact p2_other e⟩
theorem rc_ren1 {l : Launch} {b : Nat} {x : Nat → Nat} {D : va_G} {dA : Nat → ClassId} {v : Int64} {n : Nat} {M : fm_M} (hn : 629 ≤ n) (hR : fm_RP M) (h1 : v < 1099511627776) : Met l y_Mo_renamed (Cond.code y_Mo_renamed b_Mo_renamed 3 (some .long) :: fm_T0) ({ frames := 1, cells := 0, slots := 0, locals := 21 }) (fm_Pc fm_lay fm_nf fm_fk fm_cl b x D dA (fm_tys dA) (fm_EX b x) false [.ref 586, .long v] n M) (fm_Qc fm_lay fm_nf fm_fk fm_cl b x D dA (fun r n' M' => r = some (.long v) ∧ n' = n ∧ M' = M)) 0 0 (fm_A b) := by
  refine fm_enter (by decide) (Nat.le_of_ble_eq_true rfl) ?_
  intro p e s m args below meth c9 hc hr hnm hex htg
  refine fm_lload_n hc d_Mo_renamed_0 rfl rfl ?_
  refine fm_ldc2 (v := 1099511627776) hc d_Mo_renamed_1 q_1098 ?_
  refine fm_lcmp hc d_Mo_renamed_4 ?_
  refine fm_if_ge (tgt := 12) hc d_Mo_renamed_5 rfl (fun g => absurd g (fun q => absurd h1 (Int64.not_lt.mpr ((lg_cmp_ge _ _).mp q)))) (fun _ => ?_)
  refine fm_lload_n hc d_Mo_renamed_8 rfl rfl ?_
  refine fm_goto (tgt := 26) hc d_Mo_renamed_9 rfl ?_
  exact fm_lret hc hr d_Mo_renamed_26 (Nat.le_refl _) (Nat.le_refl _) ⟨rfl, rfl, rfl⟩
theorem rc_ren2 {l : Launch} {b : Nat} {x : Nat → Nat} {D : va_G} {dA : Nat → ClassId} {k : Nat} {n : Nat} {M : fm_M} (hn : 629 ≤ n) (hR : fm_RP M) (hk : k < 9) : Met l y_Mo_renamed (Cond.code y_Mo_renamed b_Mo_renamed 3 (some .long) :: fm_T0) ({ frames := 1, cells := 0, slots := 0, locals := 21 }) (fm_Pc fm_lay fm_nf fm_fk fm_cl b x D dA (fm_tys dA) (fm_EX b x) false [.ref 586, .long (1099511627776 + (nI k).toInt64)] n M) (fm_Qc fm_lay fm_nf fm_fk fm_cl b x D dA (fun r n' M' => r = some (.long (1099511627776 + (M.1 618 k).toInt64)) ∧ n' = n ∧ M' = M)) 0 0 (fm_A b) := by
  refine fm_enter (by decide) (Nat.le_of_ble_eq_true rfl) ?_
  intro p e s m args below meth c9 hc hr hnm hex htg
  refine fm_lload_n hc d_Mo_renamed_0 rfl rfl ?_
  refine fm_ldc2 (v := 1099511627776) hc d_Mo_renamed_1 q_1098 ?_
  refine fm_lcmp hc d_Mo_renamed_4 ?_
  refine fm_if_ge (tgt := 12) hc d_Mo_renamed_5 rfl (fun _ => ?_) (fun g => absurd ((lg_cmp_ge _ _).mpr (Int64.not_lt.mp (vx_pair k (by omega)))) g)
  refine fm_ldc2 (v := 1099511627776) hc d_Mo_renamed_12 q_1098 ?_
  refine fm_aload_n hc d_Mo_renamed_15 rfl rfl ?_
  refine fm_getR (k := 34) (q := 618) hc K_Mo d_Mo_renamed_16 q_919 rfl (by decide) (by omega) (by decide) (by decide) (by decide) rfl (rp_rank hR) ?_
  refine fm_lload_n hc d_Mo_renamed_19 rfl rfl ?_
  refine fm_callS (av := [.long (1099511627776 + (nI k).toInt64)]) (rest := [.ref 618, .long 1099511627776]) (y := y_Mo_pairOf) (bytes := b_Mo_pairOf) hc fm_T0_good (fm_EX_st b x) hex q_1113 q_13 q_1111 q_1112 pd_Mo_pairOf (rc_pairOf (by omega)) ⟨rfl, rfl, Nat.le_of_ble_eq_true rfl, Nat.le_of_ble_eq_true rfl⟩ ⟨Nat.le_of_ble_eq_true rfl, Nat.le_of_ble_eq_true rfl⟩ d_Mo_renamed_20 (Nat.le_of_ble_eq_true rfl) (fun r n2 M2 hp => ?_)
  obtain ⟨rfl, hq1, hq2⟩ := hp
  replace hq1 := hq1.symm
  replace hq2 := hq2.symm
  subst hq1 hq2
  refine fm_cnt (z' := (0, 0)) rfl (fm_st (st' := [.int (nI k), .ref 618, .long 1099511627776]) rfl ?_)
  refine fm_iald (j := k) (len := 9) hc 0 d_Mo_renamed_23 (by decide) (by omega) (by decide) rfl (by omega) (by decide) ?_
  refine fm_i2l hc d_Mo_renamed_24 ?_
  refine fm_ladd hc d_Mo_renamed_25 ?_
  exact fm_lret hc hr d_Mo_renamed_26 (Nat.le_refl _) (Nat.le_refl _) ⟨rfl, rfl, rfl⟩
theorem rc_ren {l : Launch} {b : Nat} {x : Nat → Nat} {D : va_G} {dA : Nat → ClassId} {np n : Nat} {ORD : List Nat} {g : Nat → Nat} {v : bf_V} {M : fm_M} (hn : 629 ≤ n) (hR : fm_RP M) (hg : ∀ a, a < np → g a < 9) (hi : bf_inj (fun a => a < np) g) (hO : ∀ a ∈ ORD, a < np) (hH : rk_H M (ORD.map g)) (hv : bf_in (fun k => k ∈ ORD) v) : Met l y_Mo_renamed (Cond.code y_Mo_renamed b_Mo_renamed 3 (some .long) :: fm_T0) ({ frames := 1, cells := 0, slots := 0, locals := 21 }) (fm_Pc fm_lay fm_nf fm_fk fm_cl b x D dA (fm_tys dA) (fm_EX b x) false [.ref 586, .long (e64 (bf_map g v))] n M) (fm_Qc fm_lay fm_nf fm_fk fm_cl b x D dA (fun r n' M' => r = some (.long (e64 (bf_ren ORD v))) ∧ n' = n ∧ M' = M)) 0 0 (fm_A b) := by
  cases v with
  | inl y => exact rc_ren1 hn hR (vx_int y)
  | inr q =>
    have hq : q ∈ ORD := hv
    have h9 := hg q (hO q hq)
    have e : M.1 618 (g q) = nI (ORD.idxOf q) := by
      rw [hH.2.2 (g q) h9, if_pos (List.mem_map.mpr ⟨q, hq, rfl⟩), bf_idx (P := fun a => a < np) hi (hO q hq) ORD hO]
    have h := rc_ren2 (l := l) (b := b) (x := x) (D := D) (dA := dA) hn hR h9
    rw [e] at h
    exact h
theorem rc_tidy {l : Launch} {b : Nat} {x : Nat → Nat} {D : va_G} {dA : Nat → ClassId} {gi n : Nat} {F : Nat → Prop} {A : ag_T} {g : Nat → Nat} {M : fm_M} (hn : 629 ≤ n) (hR : fm_RP M) (hg9 : gi < 98) (h : hr_G M gi F A g) (ok : ag_ok A) : Met l y_Mo_tidy (Cond.code y_Mo_tidy b_Mo_tidy 4 none :: fm_T0) ({ frames := 3, cells := 0, slots := 0, locals := 70 }) (fm_Pc fm_lay fm_nf fm_fk fm_cl b x D dA (fm_tys dA) (fm_EX b x) false [.ref 586, .int (nI gi)] n M) (fm_Qc fm_lay fm_nf fm_fk fm_cl b x D dA (fun r n' M' => r = none ∧ n' = n ∧ hr_G M' gi F (ag_can A) id ∧ M'.1 614 gi = nI (ag_can A).2.2.length ∧ fr_W gi M M')) 0 0 (fm_A b) := by
  refine fm_enter (by decide) (Nat.le_of_ble_eq_true rfl) ?_
  intro p e s m args below meth c9 hc hr hnm hex htg
  have hreach := rc_reach (l := l) (b := b) (x := x) (D := D) (dA := dA) hn hR hg9 h ok
  obtain ⟨h1, h2, h3, h4, h5, h6⟩ := h
  obtain ⟨ok1, ok2, ok3, ok4⟩ := ok
  have eo : bf_ord (ag_fn A.2.2) 9 A.2.1 = bf_seq (ag_fn A.2.2) (A.2.1.foldl bf_see []) 9 := ord_seq _ _ _
  have ond : (A.2.1.foldl bf_see []).Nodup := fold_nodup A.2.1 [] (by simp)
  have oin : ∀ a ∈ A.2.1.foldl bf_see [], a < A.2.2.length := bf_fold_in A.2.1 [] (fun a h => nomatch h) ok3
  have iff : ∀ a, a < A.2.2.length → bf_in (fun k => k < A.2.2.length) (ag_fn A.2.2 a).1 ∧ bf_in (fun k => k < A.2.2.length) (ag_fn A.2.2 a).2 := fun a ha => ok4 _ (List.mem_of_getElem? (fn_get ha))
  have hcl := fun i q hq => seq_closed (i := i) (q := q) ok2 ond oin iff hq
  have hin := seq_in oin iff 9
  have hnd := seq_nodup (f := ag_fn A.2.2) ond 9
  have hst : ∀ v ∈ A.2.1, bf_in (fun k => k ∈ bf_seq (ag_fn A.2.2) (A.2.1.foldl bf_see []) 9) v := fun v hv => in_mono (fun k hk => by
    have hp := seq_pres (ag_fn A.2.2) (A.2.1.foldl bf_see []) 0 9
    rw [Nat.zero_add] at hp
    exact pre_mem hp hk) (fold_has A.2.1 [] v hv)
  have hL8 := (seq_endP (f := ag_fn A.2.2) ok2 ond oin iff).1
  have eS : (ag_can A).2.1 = A.2.1.map (bf_ren (bf_seq (ag_fn A.2.2) (A.2.1.foldl bf_see []) 9)) := by
    show A.2.1.map (bf_ren (bf_ord (ag_fn A.2.2) 9 A.2.1)) = _
    rw [eo]
  have eP : (ag_can A).2.2 = (bf_seq (ag_fn A.2.2) (A.2.1.foldl bf_see []) 9).map (fun q => (bf_ren (bf_seq (ag_fn A.2.2) (A.2.1.foldl bf_see []) 9) (ag_fn A.2.2 q).1, bf_ren (bf_seq (ag_fn A.2.2) (A.2.1.foldl bf_see []) 9) (ag_fn A.2.2 q).2)) := by
    show (bf_ord (ag_fn A.2.2) 9 A.2.1).map (fun q => (bf_ren (bf_ord (ag_fn A.2.2) 9 A.2.1) (ag_fn A.2.2 q).1, bf_ren (bf_ord (ag_fn A.2.2) 9 A.2.1) (ag_fn A.2.2 q).2)) = _
    rw [eo]
  generalize hORD : bf_seq (ag_fn A.2.2) (A.2.1.foldl bf_see []) 9 = ORD at hreach hcl hin hnd hst hL8 eS eP
  have hget : ∀ i, i < ORD.length → ∃ q, ORD[i]? = some q ∧ q < A.2.2.length ∧ g q < 9 := by
    intro i hi
    have e : ORD[i]? = some ORD[i] := List.getElem?_eq_getElem hi
    have hq := hin _ (List.mem_of_getElem? e)
    exact ⟨ORD[i], e, hq, h3 _ hq⟩
  refine fm_aload_n hc d_Mo_tidy_0 rfl rfl ?_
  refine fm_iload_n hc d_Mo_tidy_1 rfl rfl ?_
  refine fm_callV (av := [.int (nI gi)]) (rest := []) (ob := 586) (ci := 11) (r0 := ("AgentNetModel", F_Mo, 51)) (y := y_Mo_reach) (bytes := b_Mo_reach) hc fm_T0_good (fm_EX_st b x) hex q_1106 q_13 q_1103 q_1105 qs_Mo_reach pd_Mo_reach (by decide) (by omega) (by decide) (by decide) rfl rfl (hreach) ⟨rfl, rfl, Nat.le_of_ble_eq_true rfl, Nat.le_of_ble_eq_true rfl⟩ ⟨Nat.le_of_ble_eq_true rfl, Nat.le_of_ble_eq_true rfl⟩ d_Mo_tidy_2 (Nat.le_of_ble_eq_true rfl) (fun r n2 M2 hp => ?_)
  obtain ⟨rfl, hq1, hH, hK⟩ := hp
  replace hq1 := hq1.symm
  subst hq1
  revert hH hK
  generalize M2 = Mr
  intro hH hK
  refine fm_cnt (z' := (0, 0)) rfl (fm_st (st' := [.int (nI ORD.length)]) rfl ?_)
  refine fm_istore_n (lv' := [(2, .int (nI ORD.length)), (0, .ref 586), (1, .int (nI gi))]) hc d_Mo_tidy_5 rfl (by decide) rfl ?_
  refine fm_iconst (v := nI 0) hc d_Mo_tidy_6 rfl ?_
  refine fm_istore_n (lv' := [(3, .int (nI 0)), (2, .int (nI ORD.length)), (0, .ref 586), (1, .int (nI gi))]) hc d_Mo_tidy_7 rfl (by decide) rfl ?_
  refine fm_loopI (N := ORD.length) (lv := fun k => [(3, .int (nI k)), (2, .int (nI ORD.length)), (0, .ref 586), (1, .int (nI gi))]) (I := fun k M' => (∀ j q, j < k → ORD[j]? = some q → M'.2.1 619 j = e64 (bf_ren ORD (ag_fn A.2.2 q).1) ∧ M'.2.1 620 j = e64 (bf_ren ORD (ag_fn A.2.2 q).2)) ∧ M'.1 = Mr.1 ∧ M'.2.2 = Mr.2.2 ∧ (∀ o j, o ≠ 619 → o ≠ 620 → M'.2.1 o j = Mr.2.1 o j)) (fun k Mk hk hI ih => ?_) (fun Mk hI => ?_) ?_
  · obtain ⟨i1, i2, i3, i4⟩ := hI
    obtain ⟨q, hq, hqn, hgq⟩ := hget k hk
    have hRk : fm_RP Mk := fun q hq => by rw [i3]; exact frK_RP hK hR q hq
    have hHk : rk_H Mk (ORD.map g) := by
      unfold rk_H
      rw [i2]
      exact hH
    have hold : Mk.1 617 k = nI (g q) := hHk.2.1 k (g q) (by rw [List.getElem?_map, hq]; rfl)
    have hf1 : Mk.2.1 615 (9 * gi + g q) = e64 (bf_map g (ag_fn A.2.2 q).1) := by rw [i4 _ _ (by decide) (by decide), show Mr.2.1 = M.2.1 by rw [hK.1]]; exact (h6 q _ (fn_get hqn)).1
    have hMa : ∀ v64, (fm_put2 Mk 619 k v64).2.1 616 (9 * gi + g q) = e64 (bf_map g (ag_fn A.2.2 q).2) := fun v64 => by rw [p2_other (by decide), i4 _ _ (by decide) (by decide), show Mr.2.1 = M.2.1 by rw [hK.1]]; exact (h6 q _ (fn_get hqn)).2
    refine fm_iload_n hc d_Mo_tidy_8 rfl rfl ?_
    refine fm_iload_n hc d_Mo_tidy_9 rfl rfl ?_
    refine fm_icmp_ge (tgt := 71) hc d_Mo_tidy_10 rfl (fun g => absurd g (hnle (a := ORD.length) (c := k) hk (by omega))) (fun _ => ?_)
    refine fm_aload_n hc d_Mo_tidy_13 rfl rfl ?_
    refine fm_getR (k := 35) (q := 619) hc K_Mo d_Mo_tidy_14 q_920 rfl (by decide) (by omega) (by decide) (by decide) (by decide) rfl (rp_heads hRk) ?_
    refine fm_iload_n hc d_Mo_tidy_17 rfl rfl ?_
    refine fm_aload_n hc d_Mo_tidy_18 rfl rfl ?_
    refine fm_aload_n hc d_Mo_tidy_19 rfl rfl ?_
    refine fm_getR (k := 30) (q := 615) hc K_Mo d_Mo_tidy_20 q_915 rfl (by decide) (by omega) (by decide) (by decide) (by decide) rfl (rp_first hRk) ?_
    refine fm_bipush (v := nI 9) hc d_Mo_tidy_23 rfl ?_
    refine fm_iload_n hc d_Mo_tidy_25 rfl rfl ?_
    refine fm_imul hc d_Mo_tidy_26 ?_
    refine fm_top (congrArg Value.int (pk_mul 9 gi)) ?_
    refine fm_aload_n hc d_Mo_tidy_27 rfl rfl ?_
    refine fm_getR (k := 33) (q := 617) hc K_Mo d_Mo_tidy_28 q_918 rfl (by decide) (by omega) (by decide) (by decide) (by decide) rfl (rp_order hRk) ?_
    refine fm_iload_n hc d_Mo_tidy_31 rfl rfl ?_
    refine fm_iald (j := k) (len := 9) hc 0 d_Mo_tidy_32 (by decide) (by omega) (by decide) rfl (by omega) (by decide) ?_
    refine fm_top (congrArg Value.int hold) ?_
    refine fm_iadd hc d_Mo_tidy_33 ?_
    refine fm_top (congrArg Value.int (nI_add (9 * gi) (g q))) ?_
    refine fm_lald (j := (9 * gi) + (g q)) (len := 882) hc 3 d_Mo_tidy_34 (by decide) (by omega) (by decide) rfl (by omega) (by decide) ?_
    refine fm_top (congrArg Value.long hf1) ?_
    refine fm_callV (av := [.long (e64 (bf_map g (ag_fn A.2.2 q).1))]) (rest := [.int (nI k), .ref 619]) (ob := 586) (ci := 11) (r0 := ("AgentNetModel", F_Mo, 51)) (y := y_Mo_renamed) (bytes := b_Mo_renamed) hc fm_T0_good (fm_EX_st b x) hex q_1162 q_13 q_1159 q_1161 qs_Mo_renamed pd_Mo_renamed (by decide) (by omega) (by decide) (by decide) rfl rfl (rc_ren (ORD := ORD) (g := g) (v := (ag_fn A.2.2 q).1) hn hRk h3 h4 hin hHk (hcl k q hq).1) ⟨rfl, rfl, Nat.le_of_ble_eq_true rfl, Nat.le_of_ble_eq_true rfl⟩ ⟨Nat.le_of_ble_eq_true rfl, Nat.le_of_ble_eq_true rfl⟩ d_Mo_tidy_35 (Nat.le_of_ble_eq_true rfl) (fun r n2 M2 hp => ?_)
    obtain ⟨rfl, hq1, hq2⟩ := hp
    replace hq1 := hq1.symm
    replace hq2 := hq2.symm
    subst hq1 hq2
    refine fm_cnt (z' := (0, 0)) rfl (fm_st (st' := [.long (e64 (bf_ren ORD (ag_fn A.2.2 q).1)), .int (nI k), .ref 619]) rfl ?_)
    refine fm_last (j := k) (len := 9) (v := e64 (bf_ren ORD (ag_fn A.2.2 q).1)) hc 3 d_Mo_tidy_38 (by decide) (by omega) (by decide) rfl (by omega) (by decide) ?_
    refine fm_aload_n hc d_Mo_tidy_39 rfl rfl ?_
    refine fm_getR (k := 36) (q := 620) hc K_Mo d_Mo_tidy_40 q_921 rfl (by decide) (by omega) (by decide) (by decide) (by decide) rfl (rp_tails hRk) ?_
    refine fm_iload_n hc d_Mo_tidy_43 rfl rfl ?_
    refine fm_aload_n hc d_Mo_tidy_44 rfl rfl ?_
    refine fm_aload_n hc d_Mo_tidy_45 rfl rfl ?_
    refine fm_getR (k := 31) (q := 616) hc K_Mo d_Mo_tidy_46 q_916 rfl (by decide) (by omega) (by decide) (by decide) (by decide) rfl (rp_second hRk) ?_
    refine fm_bipush (v := nI 9) hc d_Mo_tidy_49 rfl ?_
    refine fm_iload_n hc d_Mo_tidy_51 rfl rfl ?_
    refine fm_imul hc d_Mo_tidy_52 ?_
    refine fm_top (congrArg Value.int (pk_mul 9 gi)) ?_
    refine fm_aload_n hc d_Mo_tidy_53 rfl rfl ?_
    refine fm_getR (k := 33) (q := 617) hc K_Mo d_Mo_tidy_54 q_918 rfl (by decide) (by omega) (by decide) (by decide) (by decide) rfl (rp_order hRk) ?_
    refine fm_iload_n hc d_Mo_tidy_57 rfl rfl ?_
    refine fm_iald (j := k) (len := 9) hc 0 d_Mo_tidy_58 (by decide) (by omega) (by decide) rfl (by omega) (by decide) ?_
    refine fm_top (congrArg Value.int hold) ?_
    refine fm_iadd hc d_Mo_tidy_59 ?_
    refine fm_top (congrArg Value.int (nI_add (9 * gi) (g q))) ?_
    refine fm_lald (j := (9 * gi) + (g q)) (len := 882) hc 3 d_Mo_tidy_60 (by decide) (by omega) (by decide) rfl (by omega) (by decide) ?_
    refine fm_top (congrArg Value.long (hMa _)) ?_
    refine fm_callV (av := [.long (e64 (bf_map g (ag_fn A.2.2 q).2))]) (rest := [.int (nI k), .ref 620]) (ob := 586) (ci := 11) (r0 := ("AgentNetModel", F_Mo, 51)) (y := y_Mo_renamed) (bytes := b_Mo_renamed) hc fm_T0_good (fm_EX_st b x) hex q_1162 q_13 q_1159 q_1161 qs_Mo_renamed pd_Mo_renamed (by decide) (by omega) (by decide) (by decide) rfl rfl (rc_ren (M := fm_put2 Mk 619 k (e64 (bf_ren ORD (ag_fn A.2.2 q).1))) (ORD := ORD) (g := g) (v := (ag_fn A.2.2 q).2) hn hRk h3 h4 hin hHk (hcl k q hq).2) ⟨rfl, rfl, Nat.le_of_ble_eq_true rfl, Nat.le_of_ble_eq_true rfl⟩ ⟨Nat.le_of_ble_eq_true rfl, Nat.le_of_ble_eq_true rfl⟩ d_Mo_tidy_61 (Nat.le_of_ble_eq_true rfl) (fun r n2 M2 hp => ?_)
    obtain ⟨rfl, hq1, hq2⟩ := hp
    replace hq1 := hq1.symm
    replace hq2 := hq2.symm
    subst hq1 hq2
    refine fm_cnt (z' := (0, 0)) rfl (fm_st (st' := [.long (e64 (bf_ren ORD (ag_fn A.2.2 q).2)), .int (nI k), .ref 620]) rfl ?_)
    refine fm_last (j := k) (len := 9) (v := e64 (bf_ren ORD (ag_fn A.2.2 q).2)) hc 3 d_Mo_tidy_64 (by decide) (by omega) (by decide) rfl (by omega) (by decide) ?_
    refine fm_iinc (v := nI (k + 1)) (lv' := [(3, .int (nI (k + 1))), (2, .int (nI ORD.length)), (0, .ref 586), (1, .int (nI gi))]) hc d_Mo_tidy_65 rfl (nI_1 k) (by decide) rfl ?_
    refine fm_goto (tgt := 8) hc d_Mo_tidy_68 rfl ?_
    refine ih _ ⟨fun j r hj hr => ?_, i2, i3, fun o j a c => (p2_other c).trans ((p2_other a).trans (i4 o j a c))⟩
    by_cases e : j = k
    · subst e
      rw [hq] at hr
      cases hr
      exact ⟨(p2_other (by decide)).trans (p2_same _ _ _ _), p2_same _ _ _ _⟩
    · have h9 := i1 j r (by omega) hr
      exact ⟨(p2_other (by decide)).trans ((p2_at e).trans h9.1), (p2_at e).trans ((p2_other (by decide)).trans h9.2)⟩
  · obtain ⟨a1, a2, a3, a4⟩ := hI
    have hRk : fm_RP Mk := fun q hq => by rw [a3]; exact frK_RP hK hR q hq
    refine fm_iload_n hc d_Mo_tidy_8 rfl rfl ?_
    refine fm_iload_n hc d_Mo_tidy_9 rfl rfl ?_
    refine fm_icmp_ge (tgt := 71) hc d_Mo_tidy_10 rfl (fun _ => ?_) (fun g => absurd (nI_le (Nat.le_refl _) (by omega)) g)
    refine fm_iconst (v := nI 0) hc d_Mo_tidy_71 rfl ?_
    refine fm_istore_n (lv' := [(3, .int (nI 0)), (2, .int (nI ORD.length)), (0, .ref 586), (1, .int (nI gi))]) hc d_Mo_tidy_72 rfl (by decide) rfl ?_
    refine fm_loopI (N := ORD.length) (lv := fun k => [(3, .int (nI k)), (2, .int (nI ORD.length)), (0, .ref 586), (1, .int (nI gi))]) (I := fun k M' => (∀ j q, j < k → ORD[j]? = some q → M'.2.1 615 (9 * gi + j) = e64 (bf_ren ORD (ag_fn A.2.2 q).1) ∧ M'.2.1 616 (9 * gi + j) = e64 (bf_ren ORD (ag_fn A.2.2 q).2)) ∧ M'.1 = Mk.1 ∧ M'.2.2 = Mk.2.2 ∧ (∀ o j, ¬ ((o = 615 ∨ o = 616) ∧ 9 * gi ≤ j ∧ j < 9 * gi + 9) → M'.2.1 o j = Mk.2.1 o j)) (fun k Ml hk hI ih => ?_) (fun Ml hI => ?_) ?_
    · obtain ⟨i1, i2, i3, i4⟩ := hI
      obtain ⟨q, hq, hqn, hgq⟩ := hget k hk
      have hRl : fm_RP Ml := fun q hq => by rw [i3, a3]; exact frK_RP hK hR q hq
      have hh : Ml.2.1 619 k = e64 (bf_ren ORD (ag_fn A.2.2 q).1) := by rw [i4 _ _ (by omega)]; exact (a1 k q hk hq).1
      have htl : ∀ v64, (fm_put2 Ml 615 (9 * gi + k) v64).2.1 620 k = e64 (bf_ren ORD (ag_fn A.2.2 q).2) := fun v64 => by rw [p2_other (by decide), i4 _ _ (by omega)]; exact (a1 k q hk hq).2
      refine fm_iload_n hc d_Mo_tidy_73 rfl rfl ?_
      refine fm_iload_n hc d_Mo_tidy_74 rfl rfl ?_
      refine fm_icmp_ge (tgt := 118) hc d_Mo_tidy_75 rfl (fun g => absurd g (hnle (a := ORD.length) (c := k) hk (by omega))) (fun _ => ?_)
      refine fm_aload_n hc d_Mo_tidy_78 rfl rfl ?_
      refine fm_getR (k := 30) (q := 615) hc K_Mo d_Mo_tidy_79 q_915 rfl (by decide) (by omega) (by decide) (by decide) (by decide) rfl (rp_first hRl) ?_
      refine fm_bipush (v := nI 9) hc d_Mo_tidy_82 rfl ?_
      refine fm_iload_n hc d_Mo_tidy_84 rfl rfl ?_
      refine fm_imul hc d_Mo_tidy_85 ?_
      refine fm_top (congrArg Value.int (pk_mul 9 gi)) ?_
      refine fm_iload_n hc d_Mo_tidy_86 rfl rfl ?_
      refine fm_iadd hc d_Mo_tidy_87 ?_
      refine fm_top (congrArg Value.int (nI_add (9 * gi) k)) ?_
      refine fm_aload_n hc d_Mo_tidy_88 rfl rfl ?_
      refine fm_getR (k := 35) (q := 619) hc K_Mo d_Mo_tidy_89 q_920 rfl (by decide) (by omega) (by decide) (by decide) (by decide) rfl (rp_heads hRl) ?_
      refine fm_iload_n hc d_Mo_tidy_92 rfl rfl ?_
      refine fm_lald (j := k) (len := 9) hc 3 d_Mo_tidy_93 (by decide) (by omega) (by decide) rfl (by omega) (by decide) ?_
      refine fm_top (congrArg Value.long hh) ?_
      refine fm_last (j := (9 * gi) + k) (len := 882) (v := e64 (bf_ren ORD (ag_fn A.2.2 q).1)) hc 3 d_Mo_tidy_94 (by decide) (by omega) (by decide) rfl (by omega) (by decide) ?_
      refine fm_aload_n hc d_Mo_tidy_95 rfl rfl ?_
      refine fm_getR (k := 31) (q := 616) hc K_Mo d_Mo_tidy_96 q_916 rfl (by decide) (by omega) (by decide) (by decide) (by decide) rfl (rp_second hRl) ?_
      refine fm_bipush (v := nI 9) hc d_Mo_tidy_99 rfl ?_
      refine fm_iload_n hc d_Mo_tidy_101 rfl rfl ?_
      refine fm_imul hc d_Mo_tidy_102 ?_
      refine fm_top (congrArg Value.int (pk_mul 9 gi)) ?_
      refine fm_iload_n hc d_Mo_tidy_103 rfl rfl ?_
      refine fm_iadd hc d_Mo_tidy_104 ?_
      refine fm_top (congrArg Value.int (nI_add (9 * gi) k)) ?_
      refine fm_aload_n hc d_Mo_tidy_105 rfl rfl ?_
      refine fm_getR (k := 36) (q := 620) hc K_Mo d_Mo_tidy_106 q_921 rfl (by decide) (by omega) (by decide) (by decide) (by decide) rfl (rp_tails hRl) ?_
      refine fm_iload_n hc d_Mo_tidy_109 rfl rfl ?_
      refine fm_lald (j := k) (len := 9) hc 3 d_Mo_tidy_110 (by decide) (by omega) (by decide) rfl (by omega) (by decide) ?_
      refine fm_top (congrArg Value.long (htl _)) ?_
      refine fm_last (j := (9 * gi) + k) (len := 882) (v := e64 (bf_ren ORD (ag_fn A.2.2 q).2)) hc 3 d_Mo_tidy_111 (by decide) (by omega) (by decide) rfl (by omega) (by decide) ?_
      refine fm_iinc (v := nI (k + 1)) (lv' := [(3, .int (nI (k + 1))), (2, .int (nI ORD.length)), (0, .ref 586), (1, .int (nI gi))]) hc d_Mo_tidy_112 rfl (nI_1 k) (by decide) rfl ?_
      refine fm_goto (tgt := 73) hc d_Mo_tidy_115 rfl ?_
      refine ih _ ⟨fun j r hj hr => ?_, i2, i3, fun o j hne => ?_⟩
      · by_cases e : j = k
        · subst e
          rw [hq] at hr
          cases hr
          exact ⟨(p2_other (by decide)).trans (p2_same _ _ _ _), p2_same _ _ _ _⟩
        · have h9 := i1 j r (by omega) hr
          exact ⟨(p2_other (by decide)).trans ((p2_at (by omega)).trans h9.1), (p2_at (by omega)).trans ((p2_other (by decide)).trans h9.2)⟩
      · rw [← i4 o j hne]
        by_cases e6 : o = 616
        · subst e6
          exact (p2_at (by omega)).trans (p2_other (by decide))
        · by_cases e5 : o = 615
          · subst e5
            exact (p2_other (by decide)).trans (p2_at (by omega))
          · exact (p2_other e6).trans (p2_other e5)
    · obtain ⟨b1, b2, b3, b4⟩ := hI
      have hRl : fm_RP Ml := fun q hq => by rw [b3, a3]; exact frK_RP hK hR q hq
      have h613 : ∀ j, Ml.2.1 613 j = M.2.1 613 j := fun j => by rw [b4 _ _ (by omega), a4 _ _ (by decide) (by decide), show Mr.2.1 = M.2.1 by rw [hK.1]]
      have e1 : Ml.1 = Mr.1 := b2.trans a2
      refine fm_iload_n hc d_Mo_tidy_73 rfl rfl ?_
      refine fm_iload_n hc d_Mo_tidy_74 rfl rfl ?_
      refine fm_icmp_ge (tgt := 118) hc d_Mo_tidy_75 rfl (fun _ => ?_) (fun g => absurd (nI_le (Nat.le_refl _) (by omega)) g)
      refine fm_iconst (v := nI 0) hc d_Mo_tidy_118 rfl ?_
      refine fm_istore_n (lv' := [(3, .int (nI 0)), (2, .int (nI ORD.length)), (0, .ref 586), (1, .int (nI gi))]) hc d_Mo_tidy_119 rfl (by decide) rfl ?_
      refine fm_loopI (N := A.2.1.length) (lv := fun k => [(3, .int (nI k)), (2, .int (nI ORD.length)), (0, .ref 586), (1, .int (nI gi))]) (I := fun k M' => (∀ j v, A.2.1[j]? = some v → M'.2.1 613 (6 * gi + j) = if j < k then e64 (bf_ren ORD v) else e64 (bf_map g v)) ∧ M'.1 = Ml.1 ∧ M'.2.2 = Ml.2.2 ∧ (∀ o j, ¬ (o = 613 ∧ 6 * gi ≤ j ∧ j < 6 * gi + 6) → M'.2.1 o j = Ml.2.1 o j)) (fun k Mm hk hI ih => ?_) (fun Mm hI => ?_) ?_
      · obtain ⟨i1, i2, i3, i4⟩ := hI
        obtain ⟨v, hv⟩ : ∃ v, A.2.1[k]? = some v := ⟨A.2.1[k], List.getElem?_eq_getElem hk⟩
        have hRm : fm_RP Mm := fun q hq => by rw [i3, b3, a3]; exact frK_RP hK hR q hq
        have hsz : Mm.1 612 gi = nI A.2.1.length := by rw [i2, e1]; exact (hK.2 612 gi (by decide) (by decide) (fun e => by cases e.1)).trans h2
        have hHm : rk_H Mm (ORD.map g) := by
          unfold rk_H
          rw [i2, e1]
          exact hH
        have hvk : Mm.2.1 613 (6 * gi + k) = e64 (bf_map g v) := by rw [i1 k v hv, if_neg (Nat.lt_irrefl k)]
        refine fm_iload_n hc d_Mo_tidy_120 rfl rfl ?_
        refine fm_aload_n hc d_Mo_tidy_121 rfl rfl ?_
        refine fm_getR (k := 27) (q := 612) hc K_Mo d_Mo_tidy_122 q_912 rfl (by decide) (by omega) (by decide) (by decide) (by decide) rfl (rp_size hRm) ?_
        refine fm_iload_n hc d_Mo_tidy_125 rfl rfl ?_
        refine fm_iald (j := gi) (len := 98) hc 0 d_Mo_tidy_126 (by decide) (by omega) (by decide) rfl (by omega) (by decide) ?_
        refine fm_top (congrArg Value.int hsz) ?_
        refine fm_icmp_ge (tgt := 162) hc d_Mo_tidy_127 rfl (fun g => absurd g (hnle (a := A.2.1.length) (c := k) hk (by omega))) (fun _ => ?_)
        refine fm_aload_n hc d_Mo_tidy_130 rfl rfl ?_
        refine fm_getR (k := 28) (q := 613) hc K_Mo d_Mo_tidy_131 q_913 rfl (by decide) (by omega) (by decide) (by decide) (by decide) rfl (rp_stack hRm) ?_
        refine fm_bipush (v := nI 6) hc d_Mo_tidy_134 rfl ?_
        refine fm_iload_n hc d_Mo_tidy_136 rfl rfl ?_
        refine fm_imul hc d_Mo_tidy_137 ?_
        refine fm_top (congrArg Value.int (pk_mul 6 gi)) ?_
        refine fm_iload_n hc d_Mo_tidy_138 rfl rfl ?_
        refine fm_iadd hc d_Mo_tidy_139 ?_
        refine fm_top (congrArg Value.int (nI_add (6 * gi) k)) ?_
        refine fm_aload_n hc d_Mo_tidy_140 rfl rfl ?_
        refine fm_aload_n hc d_Mo_tidy_141 rfl rfl ?_
        refine fm_getR (k := 28) (q := 613) hc K_Mo d_Mo_tidy_142 q_913 rfl (by decide) (by omega) (by decide) (by decide) (by decide) rfl (rp_stack hRm) ?_
        refine fm_bipush (v := nI 6) hc d_Mo_tidy_145 rfl ?_
        refine fm_iload_n hc d_Mo_tidy_147 rfl rfl ?_
        refine fm_imul hc d_Mo_tidy_148 ?_
        refine fm_top (congrArg Value.int (pk_mul 6 gi)) ?_
        refine fm_iload_n hc d_Mo_tidy_149 rfl rfl ?_
        refine fm_iadd hc d_Mo_tidy_150 ?_
        refine fm_top (congrArg Value.int (nI_add (6 * gi) k)) ?_
        refine fm_lald (j := (6 * gi) + k) (len := 588) hc 3 d_Mo_tidy_151 (by decide) (by omega) (by decide) rfl (by omega) (by decide) ?_
        refine fm_top (congrArg Value.long hvk) ?_
        refine fm_callV (av := [.long (e64 (bf_map g v))]) (rest := [.int (nI ((6 * gi) + k)), .ref 613]) (ob := 586) (ci := 11) (r0 := ("AgentNetModel", F_Mo, 51)) (y := y_Mo_renamed) (bytes := b_Mo_renamed) hc fm_T0_good (fm_EX_st b x) hex q_1162 q_13 q_1159 q_1161 qs_Mo_renamed pd_Mo_renamed (by decide) (by omega) (by decide) (by decide) rfl rfl (rc_ren (ORD := ORD) (g := g) (v := v) hn hRm h3 h4 hin hHm (hst v (List.mem_of_getElem? hv))) ⟨rfl, rfl, Nat.le_of_ble_eq_true rfl, Nat.le_of_ble_eq_true rfl⟩ ⟨Nat.le_of_ble_eq_true rfl, Nat.le_of_ble_eq_true rfl⟩ d_Mo_tidy_152 (Nat.le_of_ble_eq_true rfl) (fun r n2 M2 hp => ?_)
        obtain ⟨rfl, hq1, hq2⟩ := hp
        replace hq1 := hq1.symm
        replace hq2 := hq2.symm
        subst hq1 hq2
        refine fm_cnt (z' := (0, 0)) rfl (fm_st (st' := [.long (e64 (bf_ren ORD v)), .int (nI ((6 * gi) + k)), .ref 613]) rfl ?_)
        refine fm_last (j := (6 * gi) + k) (len := 588) (v := e64 (bf_ren ORD v)) hc 3 d_Mo_tidy_155 (by decide) (by omega) (by decide) rfl (by omega) (by decide) ?_
        refine fm_iinc (v := nI (k + 1)) (lv' := [(3, .int (nI (k + 1))), (2, .int (nI ORD.length)), (0, .ref 586), (1, .int (nI gi))]) hc d_Mo_tidy_156 rfl (nI_1 k) (by decide) rfl ?_
        refine fm_goto (tgt := 120) hc d_Mo_tidy_159 rfl ?_
        refine ih _ ⟨fun j u hu => ?_, i2, i3, fun o j hne => ?_⟩
        · by_cases e : j = k
          · subst e
            rw [hv] at hu
            cases hu
            rw [p2_same, if_pos (Nat.lt_succ_self j)]
          · rw [p2_at (by omega), i1 j u hu]
            by_cases hlt : j < k
            · rw [if_pos hlt, if_pos (by omega)]
            · rw [if_neg hlt, if_neg (by omega)]
        · rw [← i4 o j hne]
          by_cases e3 : o = 613
          · subst e3
            exact p2_at (by omega)
          · exact p2_other e3
      · obtain ⟨c1, c2, c3, c4⟩ := hI
        have hRm : fm_RP Mm := fun q hq => by rw [c3, b3, a3]; exact frK_RP hK hR q hq
        have hsz : Mm.1 612 gi = nI A.2.1.length := by rw [c2, e1]; exact (hK.2 612 gi (by decide) (by decide) (fun e => by cases e.1)).trans h2
        refine fm_iload_n hc d_Mo_tidy_120 rfl rfl ?_
        refine fm_aload_n hc d_Mo_tidy_121 rfl rfl ?_
        refine fm_getR (k := 27) (q := 612) hc K_Mo d_Mo_tidy_122 q_912 rfl (by decide) (by omega) (by decide) (by decide) (by decide) rfl (rp_size hRm) ?_
        refine fm_iload_n hc d_Mo_tidy_125 rfl rfl ?_
        refine fm_iald (j := gi) (len := 98) hc 0 d_Mo_tidy_126 (by decide) (by omega) (by decide) rfl (by omega) (by decide) ?_
        refine fm_top (congrArg Value.int hsz) ?_
        refine fm_icmp_ge (tgt := 162) hc d_Mo_tidy_127 rfl (fun _ => ?_) (fun g => absurd (nI_le (Nat.le_refl _) (by omega)) g)
        refine fm_aload_n hc d_Mo_tidy_162 rfl rfl ?_
        refine fm_getR (k := 29) (q := 614) hc K_Mo d_Mo_tidy_163 q_914 rfl (by decide) (by omega) (by decide) (by decide) (by decide) rfl (rp_pairs hRm) ?_
        refine fm_iload_n hc d_Mo_tidy_166 rfl rfl ?_
        refine fm_iload_n hc d_Mo_tidy_167 rfl rfl ?_
        refine fm_iast (j := gi) (len := 98) (v := nI ORD.length) hc 0 d_Mo_tidy_168 (by decide) (by omega) (by decide) rfl (by omega) (by decide) ?_
        refine fm_vret hc hr d_Mo_tidy_169 (Nat.le_refl _) (Nat.le_refl _) ⟨rfl, rfl, ⟨?_, ?_, ?_, ?_, ?_, ?_⟩, ?_, ?_⟩
        · intro k ka kb kF
          rw [p1_other (by omega), c2, e1, hK.2 (604 + k) gi (by omega) (by omega) (fun e => by omega)]
          exact h1 k ka kb kF
        · rw [p1_other (by decide), hsz, eS, List.length_map]
        · intro a ha
          rw [eP, List.length_map] at ha
          show a < 9
          omega
        · intro a c _ _ h9
          exact h9
        · intro k w hw
          rw [eS, List.getElem?_map] at hw
          obtain ⟨v, hv, rfl⟩ := Option.map_eq_some_iff.mp hw
          show Mm.2.1 613 (6 * gi + k) = _
          rw [c1 k v hv, if_pos (List.getElem?_eq_some_iff.mp hv).1]
          congr 1
          cases bf_ren ORD v <;> rfl
        · intro k q hq
          rw [eP, List.getElem?_map] at hq
          obtain ⟨t, ht, rfl⟩ := Option.map_eq_some_iff.mp hq
          have hk := (List.getElem?_eq_some_iff.mp ht).1
          have h9 := b1 k t hk ht
          show Mm.2.1 615 (9 * gi + k) = _ ∧ Mm.2.1 616 (9 * gi + k) = _
          rw [c4 615 _ (by omega), c4 616 _ (by omega), h9.1, h9.2]
          refine ⟨?_, ?_⟩
          · congr 1
            cases bf_ren ORD (ag_fn A.2.2 t).1 <;> rfl
          · congr 1
            cases bf_ren ORD (ag_fn A.2.2 t).2 <;> rfl
        · rw [p1_same, eP, List.length_map]
        · refine frW_p1 (Or.inl ⟨by decide, by decide, rfl⟩) ⟨?_, fun o j ha hb hcc hd => ?_, fun o j ha hb hcc hd => ?_⟩
          · rw [c3, b3, a3, hK.1]
          · rw [c2, e1]
            exact hK.2 o j hb hcc hd
          · rw [c4 o j ha, b4 o j hb, a4 o j hcc hd, hK.1]
      · refine ⟨fun j v hv => ?_, rfl, rfl, fun _ _ _ => rfl⟩
        rw [if_neg (Nat.not_lt_zero j), h613]
        exact h5 j v hv
    · exact ⟨fun j q hj => absurd hj (Nat.not_lt_zero j), rfl, rfl, fun _ _ _ => rfl⟩
  · exact ⟨fun j q hj => absurd hj (Nat.not_lt_zero j), rfl, rfl, fun _ _ _ _ => rfl⟩
