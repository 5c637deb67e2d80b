/-! THE REFERENCE: meet, reach -/
/-- the reference has met the pairs ord -/
def rk_H (M : fm_M) (ord : List Nat) : Prop := M.1 586 32 = nI ord.length ∧ (∀ i q, ord[i]? = some q → M.1 617 i = nI q) ∧ (∀ q, q < 9 → M.1 618 q = if q ∈ ord then nI (ord.idxOf q) else -1)
def fr_K (M M' : fm_M) : Prop := M'.2 = M.2 ∧ ∀ o j, o ≠ 617 → o ≠ 618 → ¬ (o = 586 ∧ j = 32) → M'.1 o j = M.1 o j
theorem frK_rf (M : fm_M) : fr_K M M := ⟨rfl, fun _ _ _ _ _ => rfl⟩
theorem frK_tr {M M1 M2 : fm_M} (h : fr_K M M1) (g : fr_K M1 M2) : fr_K M M2 := ⟨g.1.trans h.1, fun o j a c d => (g.2 o j a c d).trans (h.2 o j a c d)⟩
theorem frK_RP {M M' : fm_M} (h : fr_K M M') (g : fm_RP M) : fm_RP M' := fun q hq => by rw [show M'.2.2 = M.2.2 by rw [h.1]]; exact g q hq
theorem rc_pairOf {l : Launch} {b : Nat} {x : Nat → Nat} {D : va_G} {dA : Nat → ClassId} {k n : Nat} {M : fm_M} (hk : k < 16) : Met l y_Mo_pairOf (Cond.code y_Mo_pairOf b_Mo_pairOf 2 (some .int) :: fm_T0) ({ frames := 0, cells := 0, slots := 0, locals := 0 }) (fm_Pc fm_lay fm_nf fm_fk fm_cl b x D dA (fm_tys dA) (fm_EX b x) false [.long (1099511627776 + (nI k).toInt64)] n M) (fm_Qc fm_lay fm_nf fm_fk fm_cl b x D dA (fun r n' M' => r = some (.int (nI k)) ∧ n' = n ∧ M' = M)) 0 0 (fm_A b) := by
  have h := c_Mo_pairOf (l := l) (b := b) (x := x) (D := D) (dA := dA) (v := 1099511627776 + (nI k).toInt64) (n := n) (M := M)
  rw [vx_idx k hk] at h
  exact h
theorem rc_meet1 {l : Launch} {b : Nat} {x : Nat → Nat} {D : va_G} {dA : Nat → ClassId} {v : Int64} {n : Nat} {M : fm_M} (hn : 629 ≤ n) (hR : fm_RP M) (h1 : v < 1099511627776) : Met l y_Mo_meet (Cond.code y_Mo_meet b_Mo_meet 3 none :: fm_T0) ({ frames := 1, cells := 0, slots := 0, locals := 21 }) (fm_Pc fm_lay fm_nf fm_fk fm_cl b x D dA (fm_tys dA) (fm_EX b x) false [.ref 586, .long v] n M) (fm_Qc fm_lay fm_nf fm_fk fm_cl b x D dA (fun r n' M' => r = none ∧ n' = n ∧ M' = M)) 0 0 (fm_A b) := by
  refine fm_enter (by decide) (Nat.le_of_ble_eq_true rfl) ?_
  intro p e s m args below meth c9 hc hr hnm hex htg
  refine fm_lload_n hc d_Mo_meet_0 rfl rfl ?_
  refine fm_ldc2 (v := 1099511627776) hc d_Mo_meet_1 q_1098 ?_
  refine fm_lcmp hc d_Mo_meet_4 ?_
  refine fm_if_lt (tgt := 56) hc d_Mo_meet_5 rfl (fun _ => ?_) (fun g => absurd ((lg_cmp_lt _ _).mpr h1) g)
  exact fm_vret hc hr d_Mo_meet_56 (Nat.le_refl _) (Nat.le_refl _) ⟨rfl, rfl, rfl⟩
theorem rc_meet2 {l : Launch} {b : Nat} {x : Nat → Nat} {D : va_G} {dA : Nat → ClassId} {k : Nat} {n : Nat} {M : fm_M} (hn : 629 ≤ n) (hR : fm_RP M) (hk : k < 9) (h1 : 0 ≤ M.1 618 k) : Met l y_Mo_meet (Cond.code y_Mo_meet b_Mo_meet 3 none :: fm_T0) ({ frames := 1, cells := 0, slots := 0, locals := 21 }) (fm_Pc fm_lay fm_nf fm_fk fm_cl b x D dA (fm_tys dA) (fm_EX b x) false [.ref 586, .long (1099511627776 + (nI k).toInt64)] n M) (fm_Qc fm_lay fm_nf fm_fk fm_cl b x D dA (fun r n' M' => r = none ∧ n' = n ∧ M' = M)) 0 0 (fm_A b) := by
  refine fm_enter (by decide) (Nat.le_of_ble_eq_true rfl) ?_
  intro p e s m args below meth c9 hc hr hnm hex htg
  refine fm_lload_n hc d_Mo_meet_0 rfl rfl ?_
  refine fm_ldc2 (v := 1099511627776) hc d_Mo_meet_1 q_1098 ?_
  refine fm_lcmp hc d_Mo_meet_4 ?_
  refine fm_if_lt (tgt := 56) hc d_Mo_meet_5 rfl (fun g => absurd g (fun q => vx_pair k (by omega) ((lg_cmp_lt _ _).mp q))) (fun _ => ?_)
  refine fm_aload_n hc d_Mo_meet_8 rfl rfl ?_
  refine fm_getR (k := 34) (q := 618) hc K_Mo d_Mo_meet_9 q_919 rfl (by decide) (by omega) (by decide) (by decide) (by decide) rfl (rp_rank hR) ?_
  refine fm_lload_n hc d_Mo_meet_12 rfl rfl ?_
  refine fm_callS (av := [.long (1099511627776 + (nI k).toInt64)]) (rest := [.ref 618]) (y := y_Mo_pairOf) (bytes := b_Mo_pairOf) hc fm_T0_good (fm_EX_st b x) hex q_1113 q_13 q_1111 q_1112 pd_Mo_pairOf (rc_pairOf (by omega)) ⟨rfl, rfl, Nat.le_of_ble_eq_true rfl, Nat.le_of_ble_eq_true rfl⟩ ⟨Nat.le_of_ble_eq_true rfl, Nat.le_of_ble_eq_true rfl⟩ d_Mo_meet_13 (Nat.le_of_ble_eq_true rfl) (fun r n2 M2 hp => ?_)
  obtain ⟨rfl, hq1, hq2⟩ := hp
  replace hq1 := hq1.symm
  replace hq2 := hq2.symm
  subst hq1 hq2
  refine fm_cnt (z' := (0, 0)) rfl (fm_st (st' := [.int (nI k), .ref 618]) rfl ?_)
  refine fm_iald (j := k) (len := 9) hc 0 d_Mo_meet_16 (by decide) (by omega) (by decide) rfl (by omega) (by decide) ?_
  refine fm_if_ge (tgt := 56) hc d_Mo_meet_17 rfl (fun _ => ?_) (fun g => absurd h1 g)
  exact fm_vret hc hr d_Mo_meet_56 (Nat.le_refl _) (Nat.le_refl _) ⟨rfl, rfl, rfl⟩
theorem rc_meet3 {l : Launch} {b : Nat} {x : Nat → Nat} {D : va_G} {dA : Nat → ClassId} {k ct : Nat} {n : Nat} {M : fm_M} (hn : 629 ≤ n) (hR : fm_RP M) (hk : k < 9) (h1 : ¬ 0 ≤ M.1 618 k) (hct : M.1 586 32 = nI ct) (hct9 : ct < 9) : Met l y_Mo_meet (Cond.code y_Mo_meet b_Mo_meet 3 none :: fm_T0) ({ frames := 1, cells := 0, slots := 0, locals := 21 }) (fm_Pc fm_lay fm_nf fm_fk fm_cl b x D dA (fm_tys dA) (fm_EX b x) false [.ref 586, .long (1099511627776 + (nI k).toInt64)] n M) (fm_Qc fm_lay fm_nf fm_fk fm_cl b x D dA (fun r n' M' => r = none ∧ n' = n ∧ M' = fm_put1 (fm_put1 (fm_put1 M 618 k (nI ct)) 617 ct (nI k)) 586 32 (nI (ct + 1)))) 0 0 (fm_A b) := by
  refine fm_enter (by decide) (Nat.le_of_ble_eq_true rfl) ?_
  intro p e s m args below meth c9 hc hr hnm hex htg
  refine fm_lload_n hc d_Mo_meet_0 rfl rfl ?_
  refine fm_ldc2 (v := 1099511627776) hc d_Mo_meet_1 q_1098 ?_
  refine fm_lcmp hc d_Mo_meet_4 ?_
  refine fm_if_lt (tgt := 56) hc d_Mo_meet_5 rfl (fun g => absurd g (fun q => vx_pair k (by omega) ((lg_cmp_lt _ _).mp q))) (fun _ => ?_)
  refine fm_aload_n hc d_Mo_meet_8 rfl rfl ?_
  refine fm_getR (k := 34) (q := 618) hc K_Mo d_Mo_meet_9 q_919 rfl (by decide) (by omega) (by decide) (by decide) (by decide) rfl (rp_rank hR) ?_
  refine fm_lload_n hc d_Mo_meet_12 rfl rfl ?_
  refine fm_callS (av := [.long (1099511627776 + (nI k).toInt64)]) (rest := [.ref 618]) (y := y_Mo_pairOf) (bytes := b_Mo_pairOf) hc fm_T0_good (fm_EX_st b x) hex q_1113 q_13 q_1111 q_1112 pd_Mo_pairOf (rc_pairOf (by omega)) ⟨rfl, rfl, Nat.le_of_ble_eq_true rfl, Nat.le_of_ble_eq_true rfl⟩ ⟨Nat.le_of_ble_eq_true rfl, Nat.le_of_ble_eq_true rfl⟩ d_Mo_meet_13 (Nat.le_of_ble_eq_true rfl) (fun r n2 M2 hp => ?_)
  obtain ⟨rfl, hq1, hq2⟩ := hp
  replace hq1 := hq1.symm
  replace hq2 := hq2.symm
  subst hq1 hq2
  refine fm_cnt (z' := (0, 0)) rfl (fm_st (st' := [.int (nI k), .ref 618]) rfl ?_)
  refine fm_iald (j := k) (len := 9) hc 0 d_Mo_meet_16 (by decide) (by omega) (by decide) rfl (by omega) (by decide) ?_
  refine fm_if_ge (tgt := 56) hc d_Mo_meet_17 rfl (fun g => absurd g h1) (fun _ => ?_)
  refine fm_aload_n hc d_Mo_meet_20 rfl rfl ?_
  refine fm_getR (k := 34) (q := 618) hc K_Mo d_Mo_meet_21 q_919 rfl (by decide) (by omega) (by decide) (by decide) (by decide) rfl (rp_rank hR) ?_
  refine fm_lload_n hc d_Mo_meet_24 rfl rfl ?_
  refine fm_callS (av := [.long (1099511627776 + (nI k).toInt64)]) (rest := [.ref 618]) (y := y_Mo_pairOf) (bytes := b_Mo_pairOf) hc fm_T0_good (fm_EX_st b x) hex q_1113 q_13 q_1111 q_1112 pd_Mo_pairOf (rc_pairOf (by omega)) ⟨rfl, rfl, Nat.le_of_ble_eq_true rfl, Nat.le_of_ble_eq_true rfl⟩ ⟨Nat.le_of_ble_eq_true rfl, Nat.le_of_ble_eq_true rfl⟩ d_Mo_meet_25 (Nat.le_of_ble_eq_true rfl) (fun r n2 M2 hp => ?_)
  obtain ⟨rfl, hq1, hq2⟩ := hp
  replace hq1 := hq1.symm
  replace hq2 := hq2.symm
  subst hq1 hq2
  refine fm_cnt (z' := (0, 0)) rfl (fm_st (st' := [.int (nI k), .ref 618]) rfl ?_)
  refine fm_aload_n hc d_Mo_meet_28 rfl rfl ?_
  refine fm_getI (k := 32) hc K_Mo d_Mo_meet_29 q_917 rfl (by decide) (by omega) (by decide) (by decide) (by decide) rfl ?_
  refine fm_top (congrArg Value.int hct) ?_
  refine fm_iast (j := k) (len := 9) (v := nI ct) hc 0 d_Mo_meet_32 (by decide) (by omega) (by decide) rfl (by omega) (by decide) ?_
  refine fm_aload_n hc d_Mo_meet_33 rfl rfl ?_
  refine fm_getR (k := 33) (q := 617) hc K_Mo d_Mo_meet_34 q_918 rfl (by decide) (by omega) (by decide) (by decide) (by decide) rfl (rp_order hR) ?_
  refine fm_aload_n hc d_Mo_meet_37 rfl rfl ?_
  refine fm_getI (k := 32) hc K_Mo d_Mo_meet_38 q_917 rfl (by decide) (by omega) (by decide) (by decide) (by decide) rfl ?_
  refine fm_top (congrArg Value.int ((p1_other (by decide)).trans hct)) ?_
  refine fm_lload_n hc d_Mo_meet_41 rfl rfl ?_
  refine fm_callS (av := [.long (1099511627776 + (nI k).toInt64)]) (rest := [.int (nI ct), .ref 617]) (y := y_Mo_pairOf) (bytes := b_Mo_pairOf) hc fm_T0_good (fm_EX_st b x) hex q_1113 q_13 q_1111 q_1112 pd_Mo_pairOf (rc_pairOf (by omega)) ⟨rfl, rfl, Nat.le_of_ble_eq_true rfl, Nat.le_of_ble_eq_true rfl⟩ ⟨Nat.le_of_ble_eq_true rfl, Nat.le_of_ble_eq_true rfl⟩ d_Mo_meet_42 (Nat.le_of_ble_eq_true rfl) (fun r n2 M2 hp => ?_)
  obtain ⟨rfl, hq1, hq2⟩ := hp
  replace hq1 := hq1.symm
  replace hq2 := hq2.symm
  subst hq1 hq2
  refine fm_cnt (z' := (0, 0)) rfl (fm_st (st' := [.int (nI k), .int (nI ct), .ref 617]) rfl ?_)
  refine fm_iast (j := ct) (len := 9) (v := nI k) hc 0 d_Mo_meet_45 (by decide) (by omega) (by decide) rfl (by omega) (by decide) ?_
  refine fm_aload_n hc d_Mo_meet_46 rfl rfl ?_
  refine fm_dup hc d_Mo_meet_47 rfl ?_
  refine fm_getI (k := 32) hc K_Mo d_Mo_meet_48 q_917 rfl (by decide) (by omega) (by decide) (by decide) (by decide) rfl ?_
  refine fm_top (congrArg Value.int ((p1_other (by decide)).trans ((p1_other (by decide)).trans hct))) ?_
  refine fm_iconst (v := nI 1) hc d_Mo_meet_51 rfl ?_
  refine fm_iadd hc d_Mo_meet_52 ?_
  refine fm_top (congrArg Value.int (nI_add ct 1)) ?_
  refine fm_putI (k := 32) (v := nI (ct + 1)) hc K_Mo d_Mo_meet_53 q_917 rfl (by decide) (by omega) (by decide) (by decide) (by decide) rfl rfl rfl rfl ?_
  exact fm_vret hc hr d_Mo_meet_56 (Nat.le_refl _) (Nat.le_refl _) ⟨rfl, rfl, rfl⟩
theorem rc_meet {l : Launch} {b : Nat} {x : Nat → Nat} {D : va_G} {dA : Nat → ClassId} {ord : List Nat} {v : bf_V} {n : Nat} {M : fm_M} (hn : 629 ≤ n) (hR : fm_RP M) (hH : rk_H M ord) (hv : bf_in (fun k => k < 9) v) (hd : ord.Nodup) (ho : ∀ a ∈ ord, a < 9) : Met l y_Mo_meet (Cond.code y_Mo_meet b_Mo_meet 3 none :: fm_T0) ({ frames := 1, cells := 0, slots := 0, locals := 21 }) (fm_Pc fm_lay fm_nf fm_fk fm_cl b x D dA (fm_tys dA) (fm_EX b x) false [.ref 586, .long (e64 v)] n M) (fm_Qc fm_lay fm_nf fm_fk fm_cl b x D dA (fun r n' M' => r = none ∧ n' = n ∧ rk_H M' (bf_see ord v) ∧ fr_K M M')) 0 0 (fm_A b) := by
  cases v with
  | inl y =>
    exact fm_post (rc_meet1 hn hR (vx_int y)) (fun r n' M' h => ⟨h.1, h.2.1, by rw [h.2.2]; exact hH, by rw [h.2.2]; exact frK_rf M⟩)
  | inr k =>
    have hk : k < 9 := hv
    obtain ⟨g1, g2, g3⟩ := hH
    by_cases hm : k ∈ ord
    · have e1 : M.1 618 k = nI (ord.idxOf k) := by rw [g3 k hk, if_pos hm]
      have hi := List.idxOf_lt_length_of_mem hm
      have h8 := few hd ho
      have es : bf_see ord (.inr k) = ord := if_pos hm
      refine fm_post (rc_meet2 hn hR hk (by rw [e1]; exact nI_pos' (by omega))) (fun r n' M' h => ⟨h.1, h.2.1, ?_, ?_⟩)
      · rw [h.2.2, es]; exact ⟨g1, g2, g3⟩
      · rw [h.2.2]; exact frK_rf M
    · have e1 : M.1 618 k = -1 := by rw [g3 k hk, if_neg hm]
      have es : bf_see ord (.inr k) = ord ++ [k] := if_neg hm
      have h8 : ord.length + 1 ≤ 9 := by
        have h9 := few (n := 9) (l := ord ++ [k]) (by rw [← es]; exact bf_see_nodup hd) (fun a ha => by
          rcases List.mem_append.mp ha with h | h
          · exact ho a h
          · rw [List.mem_singleton.mp h]; exact hk)
        simpa using h9
      have ei : (ord ++ [k]).idxOf k = ord.length := by
        rw [List.idxOf_append, if_neg hm]
        simp
      refine fm_post (rc_meet3 hn hR hk (by rw [e1]; decide) g1 (by omega)) (fun r n' M' h => ⟨h.1, h.2.1, ?_, ?_⟩)
      · rw [h.2.2, es]
        refine ⟨?_, fun i q hq => ?_, fun q hq => ?_⟩
        · rw [p1_same, List.length_append]; rfl
        · rw [p1_other (by decide)]
          by_cases hi : i = ord.length
          · subst hi
            rw [p1_same]
            rw [List.getElem?_append_right (Nat.le_refl _), Nat.sub_self] at hq
            cases hq
            rfl
          · have hlt : i < ord.length := by
              have := (List.getElem?_eq_some_iff.mp hq).1
              simp at this
              omega
            rw [List.getElem?_append_left hlt] at hq
            rw [p1_at hi, p1_other (by decide)]
            exact g2 i q hq
        · rw [p1_other (by decide), p1_other (by decide)]
          by_cases hqk : q = k
          · subst hqk
            rw [p1_same, if_pos (List.mem_append_right _ (List.mem_singleton.mpr rfl)), ei]
          · rw [p1_at hqk, g3 q hq]
            by_cases hqo : q ∈ ord
            · rw [if_pos hqo, if_pos (List.mem_append_left _ hqo), List.idxOf_append, if_pos hqo]
            · rw [if_neg hqo, if_neg (fun h => by
                rcases List.mem_append.mp h with h | h
                · exact hqo h
                · exact hqk (List.mem_singleton.mp h))]
      · rw [h.2.2]
        refine ⟨rfl, fun o j h1 h2 h3 => ?_⟩
        by_cases ho' : o = 586
        · subst ho'
          rw [p1_at (fun e => h3 ⟨rfl, e⟩), p1_other (by decide), p1_other (by decide)]
        · rw [p1_other ho', p1_other h1, p1_other h2]
theorem rc_reach {l : Launch} {b : Nat} {x : Nat → Nat} {D : va_G} {dA : Nat → ClassId} {gi n : Nat} {F : Nat → Prop} {A : ag_T} {g : Nat → Nat} {M : fm_M} (hn : 629 ≤ n) (hR : fm_RP M) (hg9 : gi < 98) (h : hr_G M gi F A g) (ok : ag_ok A) : Met l y_Mo_reach (Cond.code y_Mo_reach b_Mo_reach 3 (some .int) :: fm_T0) ({ frames := 2, cells := 0, slots := 0, locals := 45 }) (fm_Pc fm_lay fm_nf fm_fk fm_cl b x D dA (fm_tys dA) (fm_EX b x) false [.ref 586, .int (nI gi)] n M) (fm_Qc fm_lay fm_nf fm_fk fm_cl b x D dA (fun r n' M' => r = some (.int (nI (bf_seq (ag_fn A.2.2) (A.2.1.foldl bf_see []) 9).length)) ∧ n' = n ∧ rk_H M' ((bf_seq (ag_fn A.2.2) (A.2.1.foldl bf_see []) 9).map g) ∧ fr_K M M')) 0 0 (fm_A b) := by
  refine fm_enter (by decide) (Nat.le_of_ble_eq_true rfl) ?_
  intro p e s m args below meth c9 hc hr hnm hex htg
  obtain ⟨h1, h2, h3, h4, h5, h6⟩ := h
  obtain ⟨ok1, ok2, ok3, ok4⟩ := ok
  have ond : (A.2.1.foldl bf_see []).Nodup := fold_nodup A.2.1 [] (by simp)
  have oin : ∀ a ∈ A.2.1.foldl bf_see [], a < A.2.2.length := bf_fold_in A.2.1 [] (fun a h => nomatch h) ok3
  have iff : ∀ a, a < A.2.2.length → bf_in (fun k => k < A.2.2.length) (ag_fn A.2.2 a).1 ∧ bf_in (fun k => k < A.2.2.length) (ag_fn A.2.2 a).2 := fun a ha => ok4 _ (List.mem_of_getElem? (fn_get ha))
  obtain ⟨hL8, hLe, hLk⟩ := seq_endP (f := ag_fn A.2.2) ok2 ond oin iff
  have sin : ∀ k, ∀ a ∈ bf_seq (ag_fn A.2.2) (A.2.1.foldl bf_see []) k, a < A.2.2.length := seq_in oin iff
  have snd : ∀ k, (bf_seq (ag_fn A.2.2) (A.2.1.foldl bf_see []) k).Nodup := seq_nodup ond
  have mnd : ∀ l : List Nat, l.Nodup → (∀ a ∈ l, a < A.2.2.length) → (l.map g).Nodup ∧ ∀ a ∈ l.map g, a < 9 := by
    intro l hl hi
    refine ⟨?_, fun a ha => ?_⟩
    · induction l with
      | nil => exact List.nodup_nil
      | cons q t ih =>
        rw [List.map_cons, List.nodup_cons]
        have hq := List.nodup_cons.mp hl
        refine ⟨fun hm => ?_, ih hq.2 (fun a ha => hi a (List.mem_cons_of_mem _ ha))⟩
        obtain ⟨c, hc, e⟩ := List.mem_map.mp hm
        have := h4 c q (hi c (List.mem_cons_of_mem _ hc)) (hi q List.mem_cons_self) e
        exact hq.1 (this ▸ hc)
    · obtain ⟨c, hc, rfl⟩ := List.mem_map.mp ha
      exact h3 c (hi c hc)
  have gin : ∀ v, bf_in (fun k => k < A.2.2.length) v → bf_in (fun k => k < 9) (bf_map g v) := by
    intro v hv
    cases v with
    | inl y => trivial
    | inr k => exact h3 k hv
  generalize hORD : bf_seq (ag_fn A.2.2) (A.2.1.foldl bf_see []) 9 = ORD at hL8 hLe hLk ⊢
  refine fm_aload_n hc d_Mo_reach_0 rfl rfl ?_
  refine fm_iconst (v := nI 0) hc d_Mo_reach_1 rfl ?_
  refine fm_putI (k := 32) (v := nI 0) hc K_Mo d_Mo_reach_2 q_917 rfl (by decide) (by omega) (by decide) (by decide) (by decide) rfl rfl rfl rfl ?_
  refine fm_iconst (v := nI 0) hc d_Mo_reach_5 rfl ?_
  refine fm_istore_n (lv' := [(2, .int (nI 0)), (0, .ref 586), (1, .int (nI gi))]) hc d_Mo_reach_6 rfl (by decide) rfl ?_
  refine fm_loopI (N := 9) (lv := fun k => [(2, .int (nI k)), (0, .ref 586), (1, .int (nI gi))]) (I := fun k M' => M'.1 586 32 = nI 0 ∧ (∀ q, q < k → M'.1 618 q = -1) ∧ fr_K M M') (fun k Mk hk hI ih => ?_) (fun Mk hI => ?_) ?_
  · obtain ⟨i1, i2, i3⟩ := hI
    refine fm_iload_n hc d_Mo_reach_7 rfl rfl ?_
    refine fm_bipush (v := nI 9) hc d_Mo_reach_8 rfl ?_
    refine fm_icmp_ge (tgt := 26) hc d_Mo_reach_10 rfl (fun g => absurd g (hnle (a := 9) (c := k) hk (by omega))) (fun _ => ?_)
    refine fm_aload_n hc d_Mo_reach_13 rfl rfl ?_
    refine fm_getR (k := 34) (q := 618) hc K_Mo d_Mo_reach_14 q_919 rfl (by decide) (by omega) (by decide) (by decide) (by decide) rfl (rp_rank (frK_RP i3 hR)) ?_
    refine fm_iload_n hc d_Mo_reach_17 rfl rfl ?_
    refine fm_iconst (v := (-1)) hc d_Mo_reach_18 rfl ?_
    refine fm_iast (j := k) (len := 9) (v := (-1)) hc 0 d_Mo_reach_19 (by decide) (by omega) (by decide) rfl (by omega) (by decide) ?_
    refine fm_iinc (v := nI (k + 1)) (lv' := [(2, .int (nI (k + 1))), (0, .ref 586), (1, .int (nI gi))]) hc d_Mo_reach_20 rfl (nI_1 k) (by decide) rfl ?_
    refine fm_goto (tgt := 7) hc d_Mo_reach_23 rfl ?_
    refine ih _ ⟨(p1_other (by decide)).trans i1, fun q hq => ?_, ⟨i3.1, fun o j a c d => (p1_other c).trans (i3.2 o j a c d)⟩⟩
    by_cases e : q = k
    · subst e
      exact p1_same _ _ _ _
    · exact (p1_at e).trans (i2 q (by omega))
  · obtain ⟨i1, i2, i3⟩ := hI
    refine fm_iload_n hc d_Mo_reach_7 rfl rfl ?_
    refine fm_bipush (v := nI 9) hc d_Mo_reach_8 rfl ?_
    refine fm_icmp_ge (tgt := 26) hc d_Mo_reach_10 rfl (fun _ => ?_) (fun g => absurd (by decide) g)
    refine fm_iconst (v := nI 0) hc d_Mo_reach_26 rfl ?_
    refine fm_istore_n (lv' := [(2, .int (nI 0)), (0, .ref 586), (1, .int (nI gi))]) hc d_Mo_reach_27 rfl (by decide) rfl ?_
    refine fm_loopI (N := A.2.1.length) (lv := fun k => [(2, .int (nI k)), (0, .ref 586), (1, .int (nI gi))]) (I := fun k M' => rk_H M' (((A.2.1.take k).foldl bf_see []).map g) ∧ fr_K M M') (fun k Mk hk hI ih => ?_) (fun Mk hI => ?_) ?_
    · obtain ⟨j1, j2⟩ := hI
      obtain ⟨v, hv⟩ : ∃ v, A.2.1[k]? = some v := ⟨A.2.1[k], List.getElem?_eq_getElem hk⟩
      have hvm : v ∈ A.2.1 := List.mem_of_getElem? hv
      have hvk : Mk.2.1 613 (6 * gi + k) = e64 (bf_map g v) := by rw [show Mk.2.1 = M.2.1 by rw [j2.1]]; exact h5 k v hv
      have hdk : Mk.1 612 gi = nI A.2.1.length := (j2.2 612 gi (by decide) (by decide) (fun e => by cases e.1)).trans h2
      have htn : ((A.2.1.take k).foldl bf_see []).Nodup := fold_nodup _ [] (by simp)
      have hti : ∀ a ∈ ((A.2.1.take k).foldl bf_see []), a < A.2.2.length := fun a ha => oin a (pre_mem (fold_take_pre A.2.1 k) ha)
      have hm9 := mnd _ htn hti
      have es : bf_see (((A.2.1.take k).foldl bf_see []).map g) (bf_map g v) = (bf_see ((A.2.1.take k).foldl bf_see []) v).map g := bf_see_map (P := fun a => a < A.2.2.length) h4 hti (ok3 v hvm)
      refine fm_iload_n hc d_Mo_reach_28 rfl rfl ?_
      refine fm_aload_n hc d_Mo_reach_29 rfl rfl ?_
      refine fm_getR (k := 27) (q := 612) hc K_Mo d_Mo_reach_30 q_912 rfl (by decide) (by omega) (by decide) (by decide) (by decide) rfl (rp_size (frK_RP j2 hR)) ?_
      refine fm_iload_n hc d_Mo_reach_33 rfl rfl ?_
      refine fm_iald (j := gi) (len := 98) hc 0 d_Mo_reach_34 (by decide) (by omega) (by decide) rfl (by omega) (by decide) ?_
      refine fm_top (congrArg Value.int hdk) ?_
      refine fm_icmp_ge (tgt := 59) hc d_Mo_reach_35 rfl (fun g => absurd g (hnle (a := A.2.1.length) (c := k) hk (by omega))) (fun _ => ?_)
      refine fm_aload_n hc d_Mo_reach_38 rfl rfl ?_
      refine fm_aload_n hc d_Mo_reach_39 rfl rfl ?_
      refine fm_getR (k := 28) (q := 613) hc K_Mo d_Mo_reach_40 q_913 rfl (by decide) (by omega) (by decide) (by decide) (by decide) rfl (rp_stack (frK_RP j2 hR)) ?_
      refine fm_bipush (v := nI 6) hc d_Mo_reach_43 rfl ?_
      refine fm_iload_n hc d_Mo_reach_45 rfl rfl ?_
      refine fm_imul hc d_Mo_reach_46 ?_
      refine fm_top (congrArg Value.int (pk_mul 6 gi)) ?_
      refine fm_iload_n hc d_Mo_reach_47 rfl rfl ?_
      refine fm_iadd hc d_Mo_reach_48 ?_
      refine fm_top (congrArg Value.int (nI_add (6 * gi) k)) ?_
      refine fm_lald (j := (6 * gi) + k) (len := 588) hc 3 d_Mo_reach_49 (by decide) (by omega) (by decide) rfl (by omega) (by decide) ?_
      refine fm_top (congrArg Value.long hvk) ?_
      refine fm_callV (av := [.long (e64 (bf_map g v))]) (rest := []) (ob := 586) (ci := 11) (r0 := ("AgentNetModel", F_Mo, 51)) (y := y_Mo_meet) (bytes := b_Mo_meet) hc fm_T0_good (fm_EX_st b x) hex q_1110 q_13 q_1107 q_1109 qs_Mo_meet pd_Mo_meet (by decide) (by omega) (by decide) (by decide) rfl rfl (rc_meet (ord := ((A.2.1.take k).foldl bf_see []).map g) (v := bf_map g v) hn (frK_RP j2 hR) j1 (gin v (ok3 v hvm)) hm9.1 hm9.2) ⟨rfl, rfl, Nat.le_of_ble_eq_true rfl, Nat.le_of_ble_eq_true rfl⟩ ⟨Nat.le_of_ble_eq_true rfl, Nat.le_of_ble_eq_true rfl⟩ d_Mo_reach_50 (Nat.le_of_ble_eq_true rfl) (fun r n2 M2 hp => ?_)
      obtain ⟨rfl, hq1, ha1, ha2⟩ := hp
      replace hq1 := hq1.symm
      subst hq1
      revert ha1 ha2
      generalize M2 = Ma
      intro ha1 ha2
      refine fm_cnt (z' := (0, 0)) rfl (fm_st (st' := []) rfl ?_)
      refine fm_iinc (v := nI (k + 1)) (lv' := [(2, .int (nI (k + 1))), (0, .ref 586), (1, .int (nI gi))]) hc d_Mo_reach_53 rfl (nI_1 k) (by decide) rfl ?_
      refine fm_goto (tgt := 28) hc d_Mo_reach_56 rfl ?_
      refine ih _ ⟨?_, frK_tr j2 ha2⟩
      rw [fold_take hv, ← es]
      exact ha1
    · obtain ⟨j1, j2⟩ := hI
      rw [List.take_length] at j1
      have hdk : Mk.1 612 gi = nI A.2.1.length := (j2.2 612 gi (by decide) (by decide) (fun e => by cases e.1)).trans h2
      refine fm_iload_n hc d_Mo_reach_28 rfl rfl ?_
      refine fm_aload_n hc d_Mo_reach_29 rfl rfl ?_
      refine fm_getR (k := 27) (q := 612) hc K_Mo d_Mo_reach_30 q_912 rfl (by decide) (by omega) (by decide) (by decide) (by decide) rfl (rp_size (frK_RP j2 hR)) ?_
      refine fm_iload_n hc d_Mo_reach_33 rfl rfl ?_
      refine fm_iald (j := gi) (len := 98) hc 0 d_Mo_reach_34 (by decide) (by omega) (by decide) rfl (by omega) (by decide) ?_
      refine fm_top (congrArg Value.int hdk) ?_
      refine fm_icmp_ge (tgt := 59) hc d_Mo_reach_35 rfl (fun _ => ?_) (fun g => absurd (nI_le (Nat.le_refl _) (by omega)) g)
      refine fm_iconst (v := nI 0) hc d_Mo_reach_59 rfl ?_
      refine fm_istore_n (lv' := [(2, .int (nI 0)), (0, .ref 586), (1, .int (nI gi))]) hc d_Mo_reach_60 rfl (by decide) rfl ?_
      refine fm_loopI (N := ORD.length) (lv := fun k => [(2, .int (nI k)), (0, .ref 586), (1, .int (nI gi))]) (I := fun k M' => rk_H M' ((bf_seq (ag_fn A.2.2) (A.2.1.foldl bf_see []) k).map g) ∧ fr_K M M') (fun k Mk hk hI ih => ?_) (fun Mk hI => ?_) ?_
      · obtain ⟨j1, j2⟩ := hI
        have hkl := hLk k hk
        obtain ⟨q, hqk⟩ : ∃ q, (bf_seq (ag_fn A.2.2) (A.2.1.foldl bf_see []) k)[k]? = some q := ⟨(bf_seq (ag_fn A.2.2) (A.2.1.foldl bf_see []) k)[k], List.getElem?_eq_getElem hkl⟩
        have hqn : q < A.2.2.length := sin k q (List.mem_of_getElem? hqk)
        have hgq : g q < 9 := h3 q hqn
        have hql : (bf_seq (ag_fn A.2.2) (A.2.1.foldl bf_see []) k).length ≤ 8 := Nat.le_trans (few (snd k) (sin k)) ok2
        have hcnt : Mk.1 586 32 = nI (bf_seq (ag_fn A.2.2) (A.2.1.foldl bf_see []) k).length := by rw [j1.1, List.length_map]
        have hold : Mk.1 617 k = nI (g q) := j1.2.1 k (g q) (by rw [List.getElem?_map, hqk]; rfl)
        have hf1 : Mk.2.1 615 (9 * gi + g q) = e64 (bf_map g (ag_fn A.2.2 q).1) := by rw [show Mk.2.1 = M.2.1 by rw [j2.1]]; exact (h6 q _ (fn_get hqn)).1
        have hm9 := mnd _ (snd k) (sin k)
        have es1 : bf_see ((bf_seq (ag_fn A.2.2) (A.2.1.foldl bf_see []) k).map g) (bf_map g (ag_fn A.2.2 q).1) = (bf_see (bf_seq (ag_fn A.2.2) (A.2.1.foldl bf_see []) k) (ag_fn A.2.2 q).1).map g := bf_see_map (P := fun a => a < A.2.2.length) h4 (sin k) (iff q hqn).1
        have hi1 : ∀ a ∈ (bf_see (bf_seq (ag_fn A.2.2) (A.2.1.foldl bf_see []) k) (ag_fn A.2.2 q).1), a < A.2.2.length := bf_see_in (sin k) (iff q hqn).1
        have es2 : bf_see ((bf_see (bf_seq (ag_fn A.2.2) (A.2.1.foldl bf_see []) k) (ag_fn A.2.2 q).1).map g) (bf_map g (ag_fn A.2.2 q).2) = (bf_see (bf_see (bf_seq (ag_fn A.2.2) (A.2.1.foldl bf_see []) k) (ag_fn A.2.2 q).1) (ag_fn A.2.2 q).2).map g := bf_see_map (P := fun a => a < A.2.2.length) h4 hi1 (iff q hqn).2
        have hm9a := mnd _ (bf_see_nodup (v := (ag_fn A.2.2 q).1) (snd k)) hi1
        refine fm_iload_n hc d_Mo_reach_61 rfl rfl ?_
        refine fm_aload_n hc d_Mo_reach_62 rfl rfl ?_
        refine fm_getI (k := 32) hc K_Mo d_Mo_reach_63 q_917 rfl (by decide) (by omega) (by decide) (by decide) (by decide) rfl ?_
        refine fm_top (congrArg Value.int hcnt) ?_
        refine fm_icmp_ge (tgt := 115) hc d_Mo_reach_66 rfl (fun g => absurd g (hnle (a := (bf_seq (ag_fn A.2.2) (A.2.1.foldl bf_see []) k).length) (c := k) hkl (by omega))) (fun _ => ?_)
        refine fm_aload_n hc d_Mo_reach_69 rfl rfl ?_
        refine fm_aload_n hc d_Mo_reach_70 rfl rfl ?_
        refine fm_getR (k := 30) (q := 615) hc K_Mo d_Mo_reach_71 q_915 rfl (by decide) (by omega) (by decide) (by decide) (by decide) rfl (rp_first (frK_RP j2 hR)) ?_
        refine fm_bipush (v := nI 9) hc d_Mo_reach_74 rfl ?_
        refine fm_iload_n hc d_Mo_reach_76 rfl rfl ?_
        refine fm_imul hc d_Mo_reach_77 ?_
        refine fm_top (congrArg Value.int (pk_mul 9 gi)) ?_
        refine fm_aload_n hc d_Mo_reach_78 rfl rfl ?_
        refine fm_getR (k := 33) (q := 617) hc K_Mo d_Mo_reach_79 q_918 rfl (by decide) (by omega) (by decide) (by decide) (by decide) rfl (rp_order (frK_RP j2 hR)) ?_
        refine fm_iload_n hc d_Mo_reach_82 rfl rfl ?_
        refine fm_iald (j := k) (len := 9) hc 0 d_Mo_reach_83 (by decide) (by omega) (by decide) rfl (by omega) (by decide) ?_
        refine fm_top (congrArg Value.int hold) ?_
        refine fm_iadd hc d_Mo_reach_84 ?_
        refine fm_top (congrArg Value.int (nI_add (9 * gi) (g q))) ?_
        refine fm_lald (j := (9 * gi) + (g q)) (len := 882) hc 3 d_Mo_reach_85 (by decide) (by omega) (by decide) rfl (by omega) (by decide) ?_
        refine fm_top (congrArg Value.long hf1) ?_
        refine fm_callV (av := [.long (e64 (bf_map g (ag_fn A.2.2 q).1))]) (rest := []) (ob := 586) (ci := 11) (r0 := ("AgentNetModel", F_Mo, 51)) (y := y_Mo_meet) (bytes := b_Mo_meet) hc fm_T0_good (fm_EX_st b x) hex q_1110 q_13 q_1107 q_1109 qs_Mo_meet pd_Mo_meet (by decide) (by omega) (by decide) (by decide) rfl rfl (rc_meet (ord := (bf_seq (ag_fn A.2.2) (A.2.1.foldl bf_see []) k).map g) (v := bf_map g (ag_fn A.2.2 q).1) hn (frK_RP j2 hR) j1 (gin _ (iff q hqn).1) hm9.1 hm9.2) ⟨rfl, rfl, Nat.le_of_ble_eq_true rfl, Nat.le_of_ble_eq_true rfl⟩ ⟨Nat.le_of_ble_eq_true rfl, Nat.le_of_ble_eq_true rfl⟩ d_Mo_reach_86 (Nat.le_of_ble_eq_true rfl) (fun r n2 M2 hp => ?_)
        obtain ⟨rfl, hq1, ha1, ha2⟩ := hp
        replace hq1 := hq1.symm
        subst hq1
        revert ha1 ha2
        generalize M2 = Ma
        intro ha1 ha2
        rw [es1] at ha1
        have j3 := frK_tr j2 ha2
        have holda : Ma.1 617 k = nI (g q) := ha1.2.1 k (g q) (by rw [List.getElem?_map, pre_get (see_pre _ _) hqk]; rfl)
        have hf2 : Ma.2.1 616 (9 * gi + g q) = e64 (bf_map g (ag_fn A.2.2 q).2) := by rw [show Ma.2.1 = M.2.1 by rw [j3.1]]; exact (h6 q _ (fn_get hqn)).2
        refine fm_cnt (z' := (0, 0)) rfl (fm_st (st' := []) rfl ?_)
        refine fm_aload_n hc d_Mo_reach_89 rfl rfl ?_
        refine fm_aload_n hc d_Mo_reach_90 rfl rfl ?_
        refine fm_getR (k := 31) (q := 616) hc K_Mo d_Mo_reach_91 q_916 rfl (by decide) (by omega) (by decide) (by decide) (by decide) rfl (rp_second (frK_RP j3 hR)) ?_
        refine fm_bipush (v := nI 9) hc d_Mo_reach_94 rfl ?_
        refine fm_iload_n hc d_Mo_reach_96 rfl rfl ?_
        refine fm_imul hc d_Mo_reach_97 ?_
        refine fm_top (congrArg Value.int (pk_mul 9 gi)) ?_
        refine fm_aload_n hc d_Mo_reach_98 rfl rfl ?_
        refine fm_getR (k := 33) (q := 617) hc K_Mo d_Mo_reach_99 q_918 rfl (by decide) (by omega) (by decide) (by decide) (by decide) rfl (rp_order (frK_RP j3 hR)) ?_
        refine fm_iload_n hc d_Mo_reach_102 rfl rfl ?_
        refine fm_iald (j := k) (len := 9) hc 0 d_Mo_reach_103 (by decide) (by omega) (by decide) rfl (by omega) (by decide) ?_
        refine fm_top (congrArg Value.int holda) ?_
        refine fm_iadd hc d_Mo_reach_104 ?_
        refine fm_top (congrArg Value.int (nI_add (9 * gi) (g q))) ?_
        refine fm_lald (j := (9 * gi) + (g q)) (len := 882) hc 3 d_Mo_reach_105 (by decide) (by omega) (by decide) rfl (by omega) (by decide) ?_
        refine fm_top (congrArg Value.long hf2) ?_
        refine fm_callV (av := [.long (e64 (bf_map g (ag_fn A.2.2 q).2))]) (rest := []) (ob := 586) (ci := 11) (r0 := ("AgentNetModel", F_Mo, 51)) (y := y_Mo_meet) (bytes := b_Mo_meet) hc fm_T0_good (fm_EX_st b x) hex q_1110 q_13 q_1107 q_1109 qs_Mo_meet pd_Mo_meet (by decide) (by omega) (by decide) (by decide) rfl rfl (rc_meet (ord := (bf_see (bf_seq (ag_fn A.2.2) (A.2.1.foldl bf_see []) k) (ag_fn A.2.2 q).1).map g) (v := bf_map g (ag_fn A.2.2 q).2) hn (frK_RP j3 hR) ha1 (gin _ (iff q hqn).2) hm9a.1 hm9a.2) ⟨rfl, rfl, Nat.le_of_ble_eq_true rfl, Nat.le_of_ble_eq_true rfl⟩ ⟨Nat.le_of_ble_eq_true rfl, Nat.le_of_ble_eq_true rfl⟩ d_Mo_reach_106 (Nat.le_of_ble_eq_true rfl) (fun r n2 M2 hp => ?_)
        obtain ⟨rfl, hq1, hb1, hb2⟩ := hp
        replace hq1 := hq1.symm
        subst hq1
        revert hb1 hb2
        generalize M2 = Mb
        intro hb1 hb2
        rw [es2] at hb1
        refine fm_cnt (z' := (0, 0)) rfl (fm_st (st' := []) rfl ?_)
        refine fm_iinc (v := nI (k + 1)) (lv' := [(2, .int (nI (k + 1))), (0, .ref 586), (1, .int (nI gi))]) hc d_Mo_reach_109 rfl (nI_1 k) (by decide) rfl ?_
        refine fm_goto (tgt := 61) hc d_Mo_reach_112 rfl ?_
        refine ih _ ⟨?_, frK_tr j3 hb2⟩
        rw [seq_some hqk]
        exact hb1
      · obtain ⟨j1, j2⟩ := hI
        rw [hLe] at j1
        have hcnt : Mk.1 586 32 = nI ORD.length := by rw [j1.1, List.length_map]
        refine fm_iload_n hc d_Mo_reach_61 rfl rfl ?_
        refine fm_aload_n hc d_Mo_reach_62 rfl rfl ?_
        refine fm_getI (k := 32) hc K_Mo d_Mo_reach_63 q_917 rfl (by decide) (by omega) (by decide) (by decide) (by decide) rfl ?_
        refine fm_top (congrArg Value.int hcnt) ?_
        refine fm_icmp_ge (tgt := 115) hc d_Mo_reach_66 rfl (fun _ => ?_) (fun g => absurd (nI_le (Nat.le_refl _) (by omega)) g)
        refine fm_aload_n hc d_Mo_reach_115 rfl rfl ?_
        refine fm_getI (k := 32) hc K_Mo d_Mo_reach_116 q_917 rfl (by decide) (by omega) (by decide) (by decide) (by decide) rfl ?_
        refine fm_top (congrArg Value.int hcnt) ?_
        exact fm_iret hc hr d_Mo_reach_119 (Nat.le_refl _) (Nat.le_refl _) ⟨rfl, rfl, j1, j2⟩
      · exact ⟨j1, j2⟩
    · refine ⟨⟨i1, fun i q hq => absurd hq (by simp), fun q hq => ?_⟩, i3⟩
      rw [i2 q hq, if_neg (by simp)]
  · refine ⟨p1_same _ _ _ _, fun q hq => absurd hq (Nat.not_lt_zero q), rfl, fun o j a c d => ?_⟩
    by_cases e : o = 586
    · subst e
      exact p1_at (fun g => d ⟨rfl, g⟩)
    · exact p1_other e
