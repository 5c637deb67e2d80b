/-! THE CLASS: filled -/
def am_fil (S : Nat → Nat) : Nat → Nat
  | 0 => 0
  | k + 1 => am_fil S k + (if S k = 0 then 0 else 1)
theorem c_filled {l : Launch} {b : Nat} {x : Nat → Nat} {D : va_G} {dA : Nat → ClassId} {mm n : Nat} {S : Nat → Nat} {M : fm_M} (hn : 586 ≤ n) (hM : fm_isM mm) (hP : fm_MP M mm) (hS : ∀ a, a < 8 → M.1 (mm + 1) a = nI (S a)) (hS4 : ∀ a, a < 8 → S a ≤ 4) : Met l y_Me_filled (Cond.code y_Me_filled b_Me_filled 3 (some .int) :: fm_T0) ({ frames := 0, cells := 0, slots := 0, locals := 0 }) (fm_Pc fm_lay fm_nf fm_fk fm_cl b x D dA (fm_tys dA) (fm_EX b x) false [.ref mm] n M) (fm_Qc fm_lay fm_nf fm_fk fm_cl b x D dA (fun r n' M' => r = some (.int (nI (am_fil S 8))) ∧ n' = n ∧ M' = M)) 0 0 (fm_A b) := by
  refine fm_enter (by decide) (Nat.le_of_ble_eq_true rfl) ?_
  intro p e s m args below meth c9 hc hr hnm hex htg
  have hlo := isM_lo hM
  refine fm_iconst (v := nI 0) hc d_Me_filled_0 rfl ?_
  refine fm_istore_n (lv' := [(1, .int (nI 0)), (0, .ref mm)]) hc d_Me_filled_1 rfl (by decide) rfl ?_
  refine fm_iconst (v := nI 0) hc d_Me_filled_2 rfl ?_
  refine fm_istore_n (lv' := [(2, .int (nI 0)), (1, .int (nI 0)), (0, .ref mm)]) hc d_Me_filled_3 rfl (by decide) rfl ?_
  refine fm_loopI (N := 8) (lv := fun k => [(2, .int (nI k)), (1, .int (nI (am_fil S k))), (0, .ref mm)]) (I := fun k M' => M' = M) (fun k Mk hk hI ih => ?_) (fun Mk hI => ?_) rfl
  · subst hI
    by_cases hs : S k = 0
    · refine fm_iload_n hc d_Me_filled_4 rfl rfl ?_
      refine fm_bipush (v := nI 8) hc d_Me_filled_5 rfl ?_
      refine fm_icmp_ge (tgt := 33) hc d_Me_filled_7 rfl (fun g => absurd g (hnle (a := 8) (c := k) hk (by omega))) (fun _ => ?_)
      refine fm_iload_n hc d_Me_filled_10 rfl rfl ?_
      refine fm_aload_n hc d_Me_filled_11 rfl rfl ?_
      refine fm_getR (k := 0) (q := mm + 1) hc K_Me d_Me_filled_12 q_305 rfl (by omega) (by omega) (ly_M0 hM) (by decide) (by decide) rfl hP.1 ?_
      refine fm_iload_n hc d_Me_filled_15 rfl rfl ?_
      refine fm_iald (j := k) (len := 8) hc 0 d_Me_filled_16 (by omega) (by omega) (ly_M hM (k := 1) (by omega)) rfl (by omega) (by decide) ?_
      refine fm_top (congrArg Value.int (hS k hk)) ?_
      refine fm_if_ne (tgt := 24) hc d_Me_filled_17 rfl (fun g => absurd (congrArg nI hs) g) (fun _ => ?_)
      refine fm_iconst (v := nI 0) hc d_Me_filled_20 rfl ?_
      refine fm_goto (tgt := 25) hc d_Me_filled_21 rfl ?_
      refine fm_iadd hc d_Me_filled_25 ?_
      refine fm_top (congrArg Value.int (nI_add (am_fil S k) 0)) ?_
      refine fm_istore_n (lv' := [(1, .int (nI ((am_fil S k) + 0))), (2, .int (nI k)), (0, .ref mm)]) hc d_Me_filled_26 rfl (by decide) rfl ?_
      refine fm_iinc (v := nI (k + 1)) (lv' := [(2, .int (nI (k + 1))), (1, .int (nI ((am_fil S k) + 0))), (0, .ref mm)]) hc d_Me_filled_27 rfl (nI_1 k) (by decide) rfl ?_
      refine fm_goto (tgt := 4) hc d_Me_filled_30 rfl ?_
      have e1 : am_fil S (k + 1) = am_fil S k + 0 := by
        show am_fil S k + (if S k = 0 then 0 else 1) = _
        rw [if_pos hs]
      rw [e1] at ih
      exact ih _ rfl
    · refine fm_iload_n hc d_Me_filled_4 rfl rfl ?_
      refine fm_bipush (v := nI 8) hc d_Me_filled_5 rfl ?_
      refine fm_icmp_ge (tgt := 33) hc d_Me_filled_7 rfl (fun g => absurd g (hnle (a := 8) (c := k) hk (by omega))) (fun _ => ?_)
      refine fm_iload_n hc d_Me_filled_10 rfl rfl ?_
      refine fm_aload_n hc d_Me_filled_11 rfl rfl ?_
      refine fm_getR (k := 0) (q := mm + 1) hc K_Me d_Me_filled_12 q_305 rfl (by omega) (by omega) (ly_M0 hM) (by decide) (by decide) rfl hP.1 ?_
      refine fm_iload_n hc d_Me_filled_15 rfl rfl ?_
      refine fm_iald (j := k) (len := 8) hc 0 d_Me_filled_16 (by omega) (by omega) (ly_M hM (k := 1) (by omega)) rfl (by omega) (by decide) ?_
      refine fm_top (congrArg Value.int (hS k hk)) ?_
      refine fm_if_ne (tgt := 24) hc d_Me_filled_17 rfl (fun _ => ?_) (fun g => absurd g (fun q => hs (nI_inj (c := 0) (by have := hS4 k hk; omega) (by decide) q)))
      refine fm_iconst (v := nI 1) hc d_Me_filled_24 rfl ?_
      refine fm_iadd hc d_Me_filled_25 ?_
      refine fm_top (congrArg Value.int (nI_add (am_fil S k) 1)) ?_
      refine fm_istore_n (lv' := [(1, .int (nI ((am_fil S k) + 1))), (2, .int (nI k)), (0, .ref mm)]) hc d_Me_filled_26 rfl (by decide) rfl ?_
      refine fm_iinc (v := nI (k + 1)) (lv' := [(2, .int (nI (k + 1))), (1, .int (nI ((am_fil S k) + 1))), (0, .ref mm)]) hc d_Me_filled_27 rfl (nI_1 k) (by decide) rfl ?_
      refine fm_goto (tgt := 4) hc d_Me_filled_30 rfl ?_
      have e1 : am_fil S (k + 1) = am_fil S k + 1 := by
        show am_fil S k + (if S k = 0 then 0 else 1) = _
        rw [if_neg hs]
      rw [e1] at ih
      exact ih _ rfl
  · subst hI
    refine fm_iload_n hc d_Me_filled_4 rfl rfl ?_
    refine fm_bipush (v := nI 8) hc d_Me_filled_5 rfl ?_
    refine fm_icmp_ge (tgt := 33) hc d_Me_filled_7 rfl (fun _ => ?_) (fun g => absurd (by decide) g)
    refine fm_iload_n hc d_Me_filled_33 rfl rfl ?_
    exact fm_iret hc hr d_Me_filled_34 (Nat.le_refl _) (Nat.le_refl _) ⟨rfl, rfl, rfl⟩
