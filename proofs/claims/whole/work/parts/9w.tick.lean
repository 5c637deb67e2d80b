/-! A TICK: time passes -/
def ag_tick (A : ag_T) : ag_T := (va_up A.1 6 (A.1 6 - 1), A.2)
def pk_G (S : Nat → Nat) (G : Nat → ag_T) : Nat → Nat → ag_T
  | 0 => G
  | k + 1 => if S k = 1 then va_up (pk_G S G k) k (ag_tick (pk_G S G k k)) else pk_G S G k
def am_pass : am_T → am_T := fun (S, K, O, T, G, H, V, D) => (S, K, O, T, pk_G S G 8, H, V, D)
theorem va_same {α : Type} {f : Nat → α} {k : Nat} {v : α} (h : f k = v) : va_up f k v = f := by
  funext j
  by_cases g : j = k
  · rw [g, fm_upS, h]
  · exact fm_upN g
theorem tick_0 {A : ag_T} (h : A.1 6 = 0) : ag_tick A = A := by
  show (va_up A.1 6 (A.1 6 - 1), A.2) = A
  rw [va_same (by omega)]

theorem c_passTime {l : Launch} {b : Nat} {x : Nat → Nat} {D : va_G} {dA : Nat → ClassId} {mm n : Nat} {S : Nat → Nat} {K O T : Nat → Int32} {G : Nat → ag_T} {H : Nat → Int32} {V : Nat → Nat → Int32} {D0 : Nat → Nat} {M : fm_M} (hn : 586 ≤ n) (hM : fm_isM mm) (hP : fm_MP M mm) (h : hc_M M mm (S, K, O, T, G, H, V, D0)) (hS4 : ∀ a, a < 8 → S a ≤ 4) (hw : ∀ k a, k ≤ 8 → a < 8 → S a = 1 → (pk_G S G k a).1 6 ≤ 20) : Met l y_Me_passTime (Cond.code y_Me_passTime b_Me_passTime 2 none :: fm_T0) ({ frames := 0, cells := 0, slots := 0, locals := 0 }) (fm_Pc fm_lay fm_nf fm_fk fm_cl b x D dA (fm_tys dA) (fm_EX b x) false [.ref mm] n M) (fm_Qc fm_lay fm_nf fm_fk fm_cl b x D dA (fun r n' M' => r = none ∧ n' = n ∧ hc_M M' mm (am_pass (S, K, O, T, G, H, V, D0)) ∧ fr_H mm M M')) 0 0 (fm_A b) := by
  refine fm_enter (by decide) (Nat.le_of_ble_eq_true rfl) ?_
  intro p e s m args below meth c9 hc hr hnm hex htg
  have hlo := isM_lo hM
  refine fm_iconst (v := nI 0) hc d_Me_passTime_0 rfl ?_
  refine fm_istore_n (lv' := [(1, .int (nI 0)), (0, .ref mm)]) hc d_Me_passTime_1 rfl (by decide) rfl ?_
  refine fm_loopI (N := 8) (lv := fun k => [(1, .int (nI k)), (0, .ref mm)]) (I := fun k M' => hc_M M' mm (S, K, O, T, pk_G S G k, H, V, D0) ∧ fr_H mm M M') (fun k Mk hk hI ih => ?_) (fun Mk hI => ?_) ⟨h, frH_rf mm M⟩
  · obtain ⟨i1, i2⟩ := hI
    have hPk := MP_of i2.1 hP
    have hsl : Mk.1 (mm + 1) k = nI (S k) := i1.1 k hk
    have s4 := hS4 k hk
    by_cases g1 : S k = 1
    · have e : pk_G S G (k + 1) = va_up (pk_G S G k) k (ag_tick (pk_G S G k k)) := if_pos g1
      rw [e] at ih
      have w20 := hw k k (by omega) hk g1
      have hA : hc_A Mk (mm + (9 + 4 * k)) (pk_G S G k k) := i1.2.2.2.2.2.2 k hk (by rw [g1]; decide)
      generalize pk_G S G k = Gk at *
      have hwt : Mk.1 (mm + (9 + 4 * k)) 6 = nI ((Gk k).1 6) := hA.1 6 (by decide)
      by_cases g2 : (Gk k).1 6 = 0
      · refine fm_iload_n hc d_Me_passTime_2 rfl rfl ?_
        refine fm_bipush (v := nI 8) hc d_Me_passTime_3 rfl ?_
        refine fm_icmp_ge (tgt := 51) hc d_Me_passTime_5 rfl (fun g => absurd g (hnle (a := 8) (c := k) hk (by omega))) (fun _ => ?_)
        refine fm_aload_n hc d_Me_passTime_8 rfl rfl ?_
        refine fm_getR (k := 0) (q := mm + 1) hc K_Me d_Me_passTime_9 q_305 rfl (by omega) (by omega) (ly_M0 hM) (by decide) (by decide) rfl hPk.1 ?_
        refine fm_iload_n hc d_Me_passTime_12 rfl rfl ?_
        refine fm_iald (j := k) (len := 8) hc 0 d_Me_passTime_13 (by omega) (by omega) (ly_M hM (k := 1) (by omega)) rfl (by omega) (by decide) ?_
        refine fm_top (congrArg Value.int hsl) ?_
        refine fm_iconst (v := nI 1) hc d_Me_passTime_14 rfl ?_
        refine fm_icmp_ne (tgt := 45) hc d_Me_passTime_15 rfl (fun g => absurd (congrArg nI g1) g) (fun _ => ?_)
        refine fm_aload_n hc d_Me_passTime_18 rfl rfl ?_
        refine fm_getR (k := 4) (q := mm + 5) hc K_Me d_Me_passTime_19 q_314 rfl (by omega) (by omega) (ly_M0 hM) (by decide) (by decide) rfl hPk.2.2.2.2.1 ?_
        refine fm_iload_n hc d_Me_passTime_22 rfl rfl ?_
        refine fm_aald (q := mm + (9 + 4 * k)) (j := k) (len := 8) hc 7 d_Me_passTime_23 (by omega) (by omega) (ly_M hM (k := 5) (by omega)) (by decide) rfl (by omega) (by decide) (hPk.2.2.2.2.2.2.2.2 k hk).1 ?_
        refine fm_getI (k := 6) hc K_Tr d_Me_passTime_24 q_202 rfl (by omega) (by omega) (ly_Mt hM hk) (by decide) (by decide) rfl ?_
        refine fm_top (congrArg Value.int hwt) ?_
        refine fm_if_le (tgt := 45) hc d_Me_passTime_27 rfl (fun _ => ?_) (fun g => absurd (by rw [g2]; decide) g)
        refine fm_iinc (v := nI (k + 1)) (lv' := [(1, .int (nI (k + 1))), (0, .ref mm)]) hc d_Me_passTime_45 rfl (nI_1 k) (by decide) rfl ?_
        refine fm_goto (tgt := 2) hc d_Me_passTime_48 rfl ?_
        exact ih _ ⟨by rw [tick_0 g2, va_same rfl]; exact i1, i2⟩
      · refine fm_iload_n hc d_Me_passTime_2 rfl rfl ?_
        refine fm_bipush (v := nI 8) hc d_Me_passTime_3 rfl ?_
        refine fm_icmp_ge (tgt := 51) hc d_Me_passTime_5 rfl (fun g => absurd g (hnle (a := 8) (c := k) hk (by omega))) (fun _ => ?_)
        refine fm_aload_n hc d_Me_passTime_8 rfl rfl ?_
        refine fm_getR (k := 0) (q := mm + 1) hc K_Me d_Me_passTime_9 q_305 rfl (by omega) (by omega) (ly_M0 hM) (by decide) (by decide) rfl hPk.1 ?_
        refine fm_iload_n hc d_Me_passTime_12 rfl rfl ?_
        refine fm_iald (j := k) (len := 8) hc 0 d_Me_passTime_13 (by omega) (by omega) (ly_M hM (k := 1) (by omega)) rfl (by omega) (by decide) ?_
        refine fm_top (congrArg Value.int hsl) ?_
        refine fm_iconst (v := nI 1) hc d_Me_passTime_14 rfl ?_
        refine fm_icmp_ne (tgt := 45) hc d_Me_passTime_15 rfl (fun g => absurd (congrArg nI g1) g) (fun _ => ?_)
        refine fm_aload_n hc d_Me_passTime_18 rfl rfl ?_
        refine fm_getR (k := 4) (q := mm + 5) hc K_Me d_Me_passTime_19 q_314 rfl (by omega) (by omega) (ly_M0 hM) (by decide) (by decide) rfl hPk.2.2.2.2.1 ?_
        refine fm_iload_n hc d_Me_passTime_22 rfl rfl ?_
        refine fm_aald (q := mm + (9 + 4 * k)) (j := k) (len := 8) hc 7 d_Me_passTime_23 (by omega) (by omega) (ly_M hM (k := 5) (by omega)) (by decide) rfl (by omega) (by decide) (hPk.2.2.2.2.2.2.2.2 k hk).1 ?_
        refine fm_getI (k := 6) hc K_Tr d_Me_passTime_24 q_202 rfl (by omega) (by omega) (ly_Mt hM hk) (by decide) (by decide) rfl ?_
        refine fm_top (congrArg Value.int hwt) ?_
        refine fm_if_le (tgt := 45) hc d_Me_passTime_27 rfl (fun g => absurd g (fun q => g2 (by have := (nI_leI (a := (Gk k).1 6) (b := 0) (by omega) (by decide)).mp q; omega))) (fun _ => ?_)
        refine fm_aload_n hc d_Me_passTime_30 rfl rfl ?_
        refine fm_getR (k := 4) (q := mm + 5) hc K_Me d_Me_passTime_31 q_314 rfl (by omega) (by omega) (ly_M0 hM) (by decide) (by decide) rfl hPk.2.2.2.2.1 ?_
        refine fm_iload_n hc d_Me_passTime_34 rfl rfl ?_
        refine fm_aald (q := mm + (9 + 4 * k)) (j := k) (len := 8) hc 7 d_Me_passTime_35 (by omega) (by omega) (ly_M hM (k := 5) (by omega)) (by decide) rfl (by omega) (by decide) (hPk.2.2.2.2.2.2.2.2 k hk).1 ?_
        refine fm_dup hc d_Me_passTime_36 rfl ?_
        refine fm_getI (k := 6) hc K_Tr d_Me_passTime_37 q_202 rfl (by omega) (by omega) (ly_Mt hM hk) (by decide) (by decide) rfl ?_
        refine fm_top (congrArg Value.int hwt) ?_
        refine fm_iconst (v := nI 1) hc d_Me_passTime_40 rfl ?_
        refine fm_isub hc d_Me_passTime_41 ?_
        refine fm_top (congrArg Value.int (pk_sub (a := (Gk k).1 6) (b := 1) (by omega))) ?_
        refine fm_putI (k := 6) (v := nI (((Gk k).1 6) - 1)) hc K_Tr d_Me_passTime_42 q_202 rfl (by omega) (by omega) (ly_Mt hM hk) (by decide) (by decide) rfl rfl rfl rfl ?_
        refine fm_iinc (v := nI (k + 1)) (lv' := [(1, .int (nI (k + 1))), (0, .ref mm)]) hc d_Me_passTime_45 rfl (nI_1 k) (by decide) rfl ?_
        refine fm_goto (tgt := 2) hc d_Me_passTime_48 rfl ?_
        exact ih _ ⟨hcM_perf hlo.1 i1 (frP_p1 (Or.inl rfl) (frP_rf _ _)) (hcA_num (k := 6) (by decide) hA), frH_p1 (k := 9 + 4 * k) (by omega) i2⟩
    · have e : pk_G S G (k + 1) = pk_G S G k := if_neg g1
      rw [e] at ih
      refine fm_iload_n hc d_Me_passTime_2 rfl rfl ?_
      refine fm_bipush (v := nI 8) hc d_Me_passTime_3 rfl ?_
      refine fm_icmp_ge (tgt := 51) hc d_Me_passTime_5 rfl (fun g => absurd g (hnle (a := 8) (c := k) hk (by omega))) (fun _ => ?_)
      refine fm_aload_n hc d_Me_passTime_8 rfl rfl ?_
      refine fm_getR (k := 0) (q := mm + 1) hc K_Me d_Me_passTime_9 q_305 rfl (by omega) (by omega) (ly_M0 hM) (by decide) (by decide) rfl hPk.1 ?_
      refine fm_iload_n hc d_Me_passTime_12 rfl rfl ?_
      refine fm_iald (j := k) (len := 8) hc 0 d_Me_passTime_13 (by omega) (by omega) (ly_M hM (k := 1) (by omega)) rfl (by omega) (by decide) ?_
      refine fm_top (congrArg Value.int hsl) ?_
      refine fm_iconst (v := nI 1) hc d_Me_passTime_14 rfl ?_
      refine fm_icmp_ne (tgt := 45) hc d_Me_passTime_15 rfl (fun _ => ?_) (fun g => absurd g (fun q => g1 (nI_inj (by omega) (by decide) q)))
      refine fm_iinc (v := nI (k + 1)) (lv' := [(1, .int (nI (k + 1))), (0, .ref mm)]) hc d_Me_passTime_45 rfl (nI_1 k) (by decide) rfl ?_
      refine fm_goto (tgt := 2) hc d_Me_passTime_48 rfl ?_
      exact ih _ ⟨i1, i2⟩
  · obtain ⟨i1, i2⟩ := hI
    refine fm_iload_n hc d_Me_passTime_2 rfl rfl ?_
    refine fm_bipush (v := nI 8) hc d_Me_passTime_3 rfl ?_
    refine fm_icmp_ge (tgt := 51) hc d_Me_passTime_5 rfl (fun _ => ?_) (fun g => absurd (by decide) g)
    exact fm_vret hc hr d_Me_passTime_51 (Nat.le_refl _) (Nat.le_refl _) ⟨rfl, rfl, i1, i2⟩
