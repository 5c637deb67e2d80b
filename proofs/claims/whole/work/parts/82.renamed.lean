/-! NUMBERING: renamed -/
def fm_NP (M : fm_M) : Prop := M.2.2 60 0 = some 61 ∧ M.2.2 61 0 = some 62 ∧ M.2.2 61 1 = some 63 ∧ M.2.2 61 2 = some 64 ∧ M.2.2 61 3 = some 65
/-- the numbering has met the pairs ord -/
def nu_H (M : fm_M) (ord : List Nat) : Prop := M.1 61 4 = nI ord.length ∧ (∀ i q, ord[i]? = some q → M.1 63 i = nI q) ∧ (∀ q, q < 8 → M.1 62 q = if q ∈ ord then nI (ord.idxOf q) else -1)
def fr_N (M M' : fm_M) : Prop := M'.2 = M.2 ∧ ∀ o, o ≠ 61 → o ≠ 62 → o ≠ 63 → M'.1 o = M.1 o
theorem nI_ne_m1 {a : Nat} (h : a < 2 ^ 31) : ¬ nI a = -1 := fun g => nI_pos h (by rw [g]; decide)
theorem c_ren1 {l : Launch} {b : Nat} {x : Nat → Nat} {D : va_G} {dA : Nat → ClassId} {v : Int64} {n : Nat} {M : fm_M} (hn : 586 ≤ n) (hN : fm_NP M) (h1 : v < 1099511627776) : Met l y_Nu_renamed (Cond.code y_Nu_renamed b_Nu_renamed 4 (some .long) :: fm_T0) ({ frames := 1, cells := 0, slots := 0, locals := 21 }) (fm_Pc fm_lay fm_nf fm_fk fm_cl b x D dA (fm_tys dA) (fm_EX b x) false [.ref 61, .long v] n M) (fm_Qc fm_lay fm_nf fm_fk fm_cl b x D dA (fun r n' M' => r = some (.long v) ∧ n' = n ∧ M' = M)) 0 0 (fm_A b) := by
  refine fm_enter (by decide) (Nat.le_of_ble_eq_true rfl) ?_
  intro p e s m args below meth c9 hc hr hnm hex htg
  refine fm_lload_n hc d_Nu_renamed_0 rfl rfl ?_
  refine fm_callSN (av := [.long v]) (rest := []) (y := y_An_isPair) (bytes := b_An_isPair) hc fm_T0_good (fm_EX_st b x) hex q_427 q_1 (nx_13 hex) q_426 pd_An_isPair (c_isPair_no h1) ⟨rfl, rfl, Nat.le_of_ble_eq_true rfl, Nat.le_of_ble_eq_true rfl⟩ ⟨Nat.le_of_ble_eq_true rfl, Nat.le_of_ble_eq_true rfl⟩ d_Nu_renamed_1 (Nat.le_of_ble_eq_true rfl) (fun r n2 M2 hp => ?_)
  obtain ⟨rfl, hq1, hq2⟩ := hp
  replace hq1 := hq1.symm
  replace hq2 := hq2.symm
  subst hq1 hq2
  refine fm_cnt (z' := (0, 0)) rfl (fm_st (st' := [.int (nI 0)]) rfl ?_)
  refine fm_if_ne (tgt := 9) hc d_Nu_renamed_4 rfl (fun g => absurd (by decide) g) (fun _ => ?_)
  refine fm_lload_n hc d_Nu_renamed_7 rfl rfl ?_
  exact fm_lret hc hr d_Nu_renamed_8 (Nat.le_refl _) (Nat.le_refl _) ⟨rfl, rfl, rfl⟩
theorem c_ren2 {l : Launch} {b : Nat} {x : Nat → Nat} {D : va_G} {dA : Nat → ClassId} {k : Nat} {n : Nat} {M : fm_M} (hn : 586 ≤ n) (hN : fm_NP M) (hk : k < 8) (h1 : ¬ M.1 62 k = -1) : Met l y_Nu_renamed (Cond.code y_Nu_renamed b_Nu_renamed 4 (some .long) :: fm_T0) ({ frames := 1, cells := 0, slots := 0, locals := 21 }) (fm_Pc fm_lay fm_nf fm_fk fm_cl b x D dA (fm_tys dA) (fm_EX b x) false [.ref 61, .long (1099511627776 + (nI k).toInt64)] n M) (fm_Qc fm_lay fm_nf fm_fk fm_cl b x D dA (fun r n' M' => r = some (.long (1099511627776 + (M.1 62 k).toInt64)) ∧ n' = n ∧ M' = M)) 0 0 (fm_A b) := by
  refine fm_enter (by decide) (Nat.le_of_ble_eq_true rfl) ?_
  intro p e s m args below meth c9 hc hr hnm hex htg
  refine fm_lload_n hc d_Nu_renamed_0 rfl rfl ?_
  refine fm_callSN (av := [.long (1099511627776 + (nI k).toInt64)]) (rest := []) (y := y_An_isPair) (bytes := b_An_isPair) hc fm_T0_good (fm_EX_st b x) hex q_427 q_1 (nx_13 hex) q_426 pd_An_isPair (c_isPair_ok (vx_pair k (by omega))) ⟨rfl, rfl, Nat.le_of_ble_eq_true rfl, Nat.le_of_ble_eq_true rfl⟩ ⟨Nat.le_of_ble_eq_true rfl, Nat.le_of_ble_eq_true rfl⟩ d_Nu_renamed_1 (Nat.le_of_ble_eq_true rfl) (fun r n2 M2 hp => ?_)
  obtain ⟨rfl, hq1, hq2⟩ := hp
  replace hq1 := hq1.symm
  replace hq2 := hq2.symm
  subst hq1 hq2
  refine fm_cnt (z' := (0, 0)) rfl (fm_st (st' := [.int (nI 1)]) rfl ?_)
  refine fm_if_ne (tgt := 9) hc d_Nu_renamed_4 rfl (fun _ => ?_) (fun g => absurd g (by decide))
  refine fm_lload_n hc d_Nu_renamed_9 rfl rfl ?_
  refine fm_ldc2 (v := 1099511627776) hc d_Nu_renamed_10 q_669 ?_
  refine fm_lsub hc d_Nu_renamed_13 ?_
  refine fm_l2i hc d_Nu_renamed_14 ?_
  refine fm_top (congrArg Value.int (vx_idx k (by omega))) ?_
  refine fm_istore_n (lv' := [(3, .int (nI k)), (0, .ref 61), (1, .long (1099511627776 + (nI k).toInt64))]) hc d_Nu_renamed_15 rfl (by decide) rfl ?_
  refine fm_aload_n hc d_Nu_renamed_16 rfl rfl ?_
  refine fm_getR (k := 0) (q := 62) hc K_Nu d_Nu_renamed_17 q_106 rfl (by decide) (by omega) (by decide) (by decide) (by decide) rfl hN.2.1 ?_
  refine fm_iload_n hc d_Nu_renamed_20 rfl rfl ?_
  refine fm_iald (j := k) (len := 8) hc 0 d_Nu_renamed_21 (by decide) (by omega) (by decide) rfl (by omega) (by decide) ?_
  refine fm_iconst (v := (-1)) hc d_Nu_renamed_22 rfl ?_
  refine fm_icmp_ne (tgt := 56) hc d_Nu_renamed_23 rfl (fun _ => ?_) (fun g => absurd g h1)
  refine fm_ldc2 (v := 1099511627776) hc d_Nu_renamed_56 q_669 ?_
  refine fm_aload_n hc d_Nu_renamed_59 rfl rfl ?_
  refine fm_getR (k := 0) (q := 62) hc K_Nu d_Nu_renamed_60 q_106 rfl (by decide) (by omega) (by decide) (by decide) (by decide) rfl hN.2.1 ?_
  refine fm_iload_n hc d_Nu_renamed_63 rfl rfl ?_
  refine fm_iald (j := k) (len := 8) hc 0 d_Nu_renamed_64 (by decide) (by omega) (by decide) rfl (by omega) (by decide) ?_
  refine fm_i2l hc d_Nu_renamed_65 ?_
  refine fm_ladd hc d_Nu_renamed_66 ?_
  exact fm_lret hc hr d_Nu_renamed_67 (Nat.le_refl _) (Nat.le_refl _) ⟨rfl, rfl, rfl⟩
theorem c_ren3 {l : Launch} {b : Nat} {x : Nat → Nat} {D : va_G} {dA : Nat → ClassId} {k ct : Nat} {n : Nat} {M : fm_M} (hn : 586 ≤ n) (hN : fm_NP M) (hk : k < 8) (h1 : M.1 62 k = -1) (hct : M.1 61 4 = nI ct) (hct8 : ct < 8) : Met l y_Nu_renamed (Cond.code y_Nu_renamed b_Nu_renamed 4 (some .long) :: fm_T0) ({ frames := 1, cells := 0, slots := 0, locals := 21 }) (fm_Pc fm_lay fm_nf fm_fk fm_cl b x D dA (fm_tys dA) (fm_EX b x) false [.ref 61, .long (1099511627776 + (nI k).toInt64)] n M) (fm_Qc fm_lay fm_nf fm_fk fm_cl b x D dA (fun r n' M' => r = some (.long (1099511627776 + (nI ct).toInt64)) ∧ n' = n ∧ M' = fm_put1 (fm_put1 (fm_put1 M 62 k (nI ct)) 63 ct (nI k)) 61 4 (nI (ct + 1)))) 0 0 (fm_A b) := by
  refine fm_enter (by decide) (Nat.le_of_ble_eq_true rfl) ?_
  intro p e s m args below meth c9 hc hr hnm hex htg
  refine fm_lload_n hc d_Nu_renamed_0 rfl rfl ?_
  refine fm_callSN (av := [.long (1099511627776 + (nI k).toInt64)]) (rest := []) (y := y_An_isPair) (bytes := b_An_isPair) hc fm_T0_good (fm_EX_st b x) hex q_427 q_1 (nx_13 hex) q_426 pd_An_isPair (c_isPair_ok (vx_pair k (by omega))) ⟨rfl, rfl, Nat.le_of_ble_eq_true rfl, Nat.le_of_ble_eq_true rfl⟩ ⟨Nat.le_of_ble_eq_true rfl, Nat.le_of_ble_eq_true rfl⟩ d_Nu_renamed_1 (Nat.le_of_ble_eq_true rfl) (fun r n2 M2 hp => ?_)
  obtain ⟨rfl, hq1, hq2⟩ := hp
  replace hq1 := hq1.symm
  replace hq2 := hq2.symm
  subst hq1 hq2
  refine fm_cnt (z' := (0, 0)) rfl (fm_st (st' := [.int (nI 1)]) rfl ?_)
  refine fm_if_ne (tgt := 9) hc d_Nu_renamed_4 rfl (fun _ => ?_) (fun g => absurd g (by decide))
  refine fm_lload_n hc d_Nu_renamed_9 rfl rfl ?_
  refine fm_ldc2 (v := 1099511627776) hc d_Nu_renamed_10 q_669 ?_
  refine fm_lsub hc d_Nu_renamed_13 ?_
  refine fm_l2i hc d_Nu_renamed_14 ?_
  refine fm_top (congrArg Value.int (vx_idx k (by omega))) ?_
  refine fm_istore_n (lv' := [(3, .int (nI k)), (0, .ref 61), (1, .long (1099511627776 + (nI k).toInt64))]) hc d_Nu_renamed_15 rfl (by decide) rfl ?_
  refine fm_aload_n hc d_Nu_renamed_16 rfl rfl ?_
  refine fm_getR (k := 0) (q := 62) hc K_Nu d_Nu_renamed_17 q_106 rfl (by decide) (by omega) (by decide) (by decide) (by decide) rfl hN.2.1 ?_
  refine fm_iload_n hc d_Nu_renamed_20 rfl rfl ?_
  refine fm_iald (j := k) (len := 8) hc 0 d_Nu_renamed_21 (by decide) (by omega) (by decide) rfl (by omega) (by decide) ?_
  refine fm_iconst (v := (-1)) hc d_Nu_renamed_22 rfl ?_
  refine fm_icmp_ne (tgt := 56) hc d_Nu_renamed_23 rfl (fun g => absurd h1 g) (fun _ => ?_)
  refine fm_aload_n hc d_Nu_renamed_26 rfl rfl ?_
  refine fm_getR (k := 0) (q := 62) hc K_Nu d_Nu_renamed_27 q_106 rfl (by decide) (by omega) (by decide) (by decide) (by decide) rfl hN.2.1 ?_
  refine fm_iload_n hc d_Nu_renamed_30 rfl rfl ?_
  refine fm_aload_n hc d_Nu_renamed_31 rfl rfl ?_
  refine fm_getI (k := 4) hc K_Nu d_Nu_renamed_32 q_110 rfl (by decide) (by omega) (by decide) (by decide) (by decide) rfl ?_
  refine fm_top (congrArg Value.int hct) ?_
  refine fm_iast (j := k) (len := 8) (v := nI ct) hc 0 d_Nu_renamed_35 (by decide) (by omega) (by decide) rfl (by omega) (by decide) ?_
  refine fm_aload_n hc d_Nu_renamed_36 rfl rfl ?_
  refine fm_getR (k := 1) (q := 63) hc K_Nu d_Nu_renamed_37 q_107 rfl (by decide) (by omega) (by decide) (by decide) (by decide) rfl hN.2.2.1 ?_
  refine fm_aload_n hc d_Nu_renamed_40 rfl rfl ?_
  refine fm_getI (k := 4) hc K_Nu d_Nu_renamed_41 q_110 rfl (by decide) (by omega) (by decide) (by decide) (by decide) rfl ?_
  refine fm_top (congrArg Value.int ((p1_other (by decide)).trans hct)) ?_
  refine fm_iload_n hc d_Nu_renamed_44 rfl rfl ?_
  refine fm_iast (j := ct) (len := 8) (v := nI k) hc 0 d_Nu_renamed_45 (by decide) (by omega) (by decide) rfl (by omega) (by decide) ?_
  refine fm_aload_n hc d_Nu_renamed_46 rfl rfl ?_
  refine fm_dup hc d_Nu_renamed_47 rfl ?_
  refine fm_getI (k := 4) hc K_Nu d_Nu_renamed_48 q_110 rfl (by decide) (by omega) (by decide) (by decide) (by decide) rfl ?_
  refine fm_top (congrArg Value.int ((p1_other (by decide)).trans ((p1_other (by decide)).trans hct))) ?_
  refine fm_iconst (v := nI 1) hc d_Nu_renamed_51 rfl ?_
  refine fm_iadd hc d_Nu_renamed_52 ?_
  refine fm_top (congrArg Value.int (nI_add ct 1)) ?_
  refine fm_putI (k := 4) (v := nI (ct + 1)) hc K_Nu d_Nu_renamed_53 q_110 rfl (by decide) (by omega) (by decide) (by decide) (by decide) rfl rfl rfl rfl ?_
  refine fm_ldc2 (v := 1099511627776) hc d_Nu_renamed_56 q_669 ?_
  refine fm_aload_n hc d_Nu_renamed_59 rfl rfl ?_
  refine fm_getR (k := 0) (q := 62) hc K_Nu d_Nu_renamed_60 q_106 rfl (by decide) (by omega) (by decide) (by decide) (by decide) rfl hN.2.1 ?_
  refine fm_iload_n hc d_Nu_renamed_63 rfl rfl ?_
  refine fm_iald (j := k) (len := 8) hc 0 d_Nu_renamed_64 (by decide) (by omega) (by decide) rfl (by omega) (by decide) ?_
  refine fm_top (congrArg Value.int ((p1_other (by decide)).trans ((p1_other (by decide)).trans (p1_same _ _ _ _)))) ?_
  refine fm_i2l hc d_Nu_renamed_65 ?_
  refine fm_ladd hc d_Nu_renamed_66 ?_
  exact fm_lret hc hr d_Nu_renamed_67 (Nat.le_refl _) (Nat.le_refl _) ⟨rfl, rfl, rfl⟩
theorem c_ren {l : Launch} {b : Nat} {x : Nat → Nat} {D : va_G} {dA : Nat → ClassId} {ord : List Nat} {v : bf_V} {n : Nat} {M : fm_M} (hn : 586 ≤ n) (hN : fm_NP M) (hH : nu_H M ord) (hv : bf_in (fun k => k < 8) v) (hd : ord.Nodup) (ho : ∀ a ∈ ord, a < 8) : Met l y_Nu_renamed (Cond.code y_Nu_renamed b_Nu_renamed 4 (some .long) :: fm_T0) ({ frames := 1, cells := 0, slots := 0, locals := 21 }) (fm_Pc fm_lay fm_nf fm_fk fm_cl b x D dA (fm_tys dA) (fm_EX b x) false [.ref 61, .long (e64 v)] n M) (fm_Qc fm_lay fm_nf fm_fk fm_cl b x D dA (fun r n' M' => r = some (.long (e64 (bf_ren (bf_see ord v) v))) ∧ n' = n ∧ nu_H M' (bf_see ord v) ∧ fr_N M M')) 0 0 (fm_A b) := by
  cases v with
  | inl y =>
    exact fm_post (c_ren1 hn hN (vx_int y)) (fun r n' M' h => ⟨h.1, h.2.1, by rw [h.2.2]; exact hH, by rw [h.2.2]; exact ⟨rfl, fun _ _ _ _ => rfl⟩⟩)
  | inr k =>
    have hk : k < 8 := hv
    obtain ⟨g1, g2, g3⟩ := hH
    by_cases hm : k ∈ ord
    · have e1 : M.1 62 k = nI (ord.idxOf k) := by rw [g3 k hk, if_pos hm]
      have hi := List.idxOf_lt_length_of_mem hm
      have h8 := few hd ho
      have es : bf_see ord (.inr k) = ord := if_pos hm
      refine fm_post (c_ren2 hn hN hk (by rw [e1]; exact nI_ne_m1 (by omega))) (fun r n' M' h => ⟨?_, h.2.1, ?_, ?_⟩)
      · rw [h.1, e1, es]; rfl
      · rw [h.2.2, es]; exact ⟨g1, g2, g3⟩
      · rw [h.2.2]; exact ⟨rfl, fun _ _ _ _ => rfl⟩
    · have e1 : M.1 62 k = -1 := by rw [g3 k hk, if_neg hm]
      have es : bf_see ord (.inr k) = ord ++ [k] := if_neg hm
      have h8 : ord.length + 1 ≤ 8 := by
        have h9 := few (n := 8) (l := ord ++ [k]) (by rw [← es]; exact bf_see_nodup hd) (fun a ha => by
          rcases List.mem_append.mp ha with h | h
          · exact ho a h
          · rw [List.mem_singleton.mp h]; exact hk)
        simpa using h9
      have ei : (ord ++ [k]).idxOf k = ord.length := by
        rw [List.idxOf_append, if_neg hm]
        simp
      refine fm_post (c_ren3 hn hN hk e1 g1 (by omega)) (fun r n' M' h => ⟨?_, h.2.1, ?_, ?_⟩)
      · rw [h.1, es]
        show _ = some (Value.long (1099511627776 + (nI ((ord ++ [k]).idxOf k)).toInt64))
        rw [ei]
      · rw [h.2.2, es]
        refine ⟨?_, fun i q hq => ?_, fun q hq => ?_⟩
        · rw [p1_same, List.length_append]; rfl
        · rw [p1_other (by decide)]
          by_cases hi : i = ord.length
          · subst hi
            rw [p1_same]
            rw [List.getElem?_append_right (Nat.le_refl _), Nat.sub_self] at hq
            cases hq
            rfl
          · have hlt : i < ord.length := by
              have := (List.getElem?_eq_some_iff.mp hq).1
              simp at this
              omega
            rw [List.getElem?_append_left hlt] at hq
            rw [p1_at hi, p1_other (by decide)]
            exact g2 i q hq
        · rw [p1_other (by decide), p1_other (by decide)]
          by_cases hqk : q = k
          · subst hqk
            rw [p1_same, if_pos (List.mem_append_right _ (List.mem_singleton.mpr rfl)), ei]
          · rw [p1_at hqk, g3 q hq]
            by_cases hqo : q ∈ ord
            · rw [if_pos hqo, if_pos (List.mem_append_left _ hqo), List.idxOf_append, if_pos hqo]
            · rw [if_neg hqo, if_neg (fun h => by
                rcases List.mem_append.mp h with h | h
                · exact hqo h
                · exact hqk (List.mem_singleton.mp h))]
      · rw [h.2.2]
        exact ⟨rfl, fun o h1 h2 h3 => by simp [fm_put1, va_up, h1, h2, h3]⟩
