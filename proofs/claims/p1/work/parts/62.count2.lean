/-! Sayings.count -/
theorem c_count {l : Launch} {b : Nat} {x : Nat → Nat} {D : va_G} {dA : Nat → ClassId} {o q i n : Nat} {M : fm_M} (h8 : 8 ≤ o) (ho : o < n) (hl : (fm_lay o).1 = 2) (hq8 : 8 ≤ q) (hqn : q < n) (hql : fm_lay q = (100, 8)) (hq0 : M.2.2 o 0 = some q) (hi : i < 8) : Met l y_Sy_count (Cond.code y_Sy_count b_Sy_count 2 (some .int) :: fm_T0) ({ frames := 1, cells := 0, slots := 0, locals := 20 }) (fm_Pc fm_lay fm_nf fm_fk fm_cl b x D dA (fm_tys dA) (fm_EX b x) false [.ref o, .int (nI i)] n M) (fm_Qc fm_lay fm_nf fm_fk fm_cl b x D dA (fun r n' M' => r = some (.int (bitc (M.1 q i))) ∧ n' = n ∧ M' = M)) 0 0 (fm_A b) := by
  refine fm_enter (by decide) (Nat.le_of_ble_eq_true rfl) ?_
  intro p e s m args below meth c hc hr hnm hex htg
  refine fm_aload_n hc d_Sy_count_0 rfl rfl ?_
  refine fm_getR (k := 0) (q := q) hc K_Sy d_Sy_count_1 q_150 rfl h8 ho hl (by decide) (by decide) rfl hq0 ?_
  refine fm_iload_n hc d_Sy_count_4 rfl rfl ?_
  refine fm_iald (j := i) (len := 8) hc 0 d_Sy_count_5 hq8 hqn hql rfl (by omega) (by decide) ?_
  refine fm_callS (av := [.int (M.1 q i)]) (rest := []) (y := y_Jb) (bytes := b_Jb) hc fm_T0_good (fm_EX_st b x) hex q_458 q_22 q_456 q_457 pd_Jb c_Jb ⟨rfl, rfl, Nat.le_of_ble_eq_true rfl, Nat.le_of_ble_eq_true rfl⟩ ⟨Nat.le_of_ble_eq_true rfl, Nat.le_of_ble_eq_true rfl⟩ d_Sy_count_6 (Nat.le_of_ble_eq_true rfl) (fun r n2 M2 hp => ?_)
  obtain ⟨rfl, hq1, hq2⟩ := hp
  replace hq1 := hq1.symm
  replace hq2 := hq2.symm
  subst hq1 hq2
  refine fm_cnt (z' := (0, 0)) rfl (fm_st (st' := [.int (bitc (M.1 q i))]) rfl ?_)
  exact fm_iret hc hr d_Sy_count_9 (Nat.le_refl _) (Nat.le_refl _) ⟨rfl, rfl, rfl⟩
