/-! THE CLASS: step entire -/
def am_round (sc : Nat → List Nat) (tbl : Nat → Int32) (he : Nat) (m : am_T) : am_T := am_run sc tbl he (am_on m) 8 m
def am_rounds (sc : Nat → List Nat) (tbl : Nat → Int32) (he : Nat) : Nat → am_T → am_T
  | 0, m => m
  | k + 1, m => am_round sc tbl he (am_rounds sc tbl he k m)
def am_done (sc : Nat → List Nat) (tbl : Nat → Int32) (he : Nat) : Nat → am_T → Nat
  | 0, _ => 0
  | k + 1, m => am_done sc tbl he k m + am_cnt (am_on (am_rounds sc tbl he k m)) 8
theorem c_roundW {l : Launch} {b : Nat} {x : Nat → Nat} {D : va_G} {dA : Nat → ClassId} {j mm n : Nat} {sc : Nat → List Nat} {tbl : Nat → Int32} {m0 : am_T} {M : fm_M} (hn : 586 ≤ n) (hA : fm_AP M) (hN : fm_NP M) (hj : j < 4) (hM : fm_isM mm) (hm : M.2.2 (90 + 124 * j) 3 = some mm) (hP : fm_MP M mm) (hsc : ∀ q, q < 4 → hs_S M q (sc q)) (htb : ∀ k, k < 8 → M.1 (11 + j) k = tbl k) (h : hc_M M mm m0) (hW : am_W m0) : Met l y_An_round (Cond.code y_An_round b_An_round 8 (some .int) :: fm_T0) ({ frames := 4, cells := 0, slots := 0, locals := 140 }) (fm_Pc fm_lay fm_nf fm_fk fm_cl b x D dA (fm_tys dA) (fm_EX b x) false [.ref 8, .int (nI j)] n M) (fm_Qc fm_lay fm_nf fm_fk fm_cl b x D dA (fun r n' M' => r = some (.int (nI (am_cnt (am_on m0) 8))) ∧ n' = n ∧ hc_M M' mm (am_round sc tbl j m0) ∧ am_W (am_round sc tbl j m0) ∧ fr_H mm M M')) 0 0 (fm_A b) := by
  have hsb : ∀ q, q < 4 → ∀ i v : Nat, (sc q)[i]? = some v → v < 256 := fun q hq i v hv => ((hsc q hq).2.2.2 i v hv).2
  have hsl : ∀ q, q < 4 → (sc q).length ≤ 48 := fun q hq => (hsc q hq).2.1
  have hw8 := (amW_run (he := j) (tbl := tbl) hsb hsl hW 8 (Nat.le_refl 8)).1
  have hI := amI_W hW
  obtain ⟨S0, K0, O0, T0, G0, H0, V0, D0⟩ := m0
  exact fm_post (c_round hn hA hN hj hM hm hP hsc htb h hI) (fun r n' M' q => ⟨q.1, q.2.1, q.2.2.1, hw8, q.2.2.2.2⟩)
theorem x_step_go {l : Launch} {b : Nat} {x : Nat → Nat} {D : va_G} {dA : Nat → ClassId} (htr : l.stackTraces = false) {j mm c0 n : Nat} {sc : Nat → List Nat} {tbl : Nat → Int32} {m0 : am_T} {M : fm_M} (hn : 586 ≤ n) (hA : fm_AP M) (hN : fm_NP M) (hj : j < 4) (hM : fm_isM mm) (hm : M.2.2 (90 + 124 * j) 3 = some mm) (hP : fm_MP M mm) (hsc : ∀ q, q < 4 → hs_S M q (sc q)) (htb : ∀ k, k < 8 → M.1 (11 + j) k = tbl k) (h : hc_M M mm m0) (hW : am_W m0) (hu : ¬ M.1 (90 + 124 * j) 1 = 0) (hc1 : 1 ≤ c0) (hc40 : c0 ≤ 40) : MetFree l y_An_step (headSpec (Cond.code y_An_step b_An_step 5 (some .int) :: fm_T0) ({ frames := 10, cells := 1, slots := 6, locals := 400 })) (fm_Pc fm_lay fm_nf fm_fk fm_cl b x D dA (fm_tys dA) (fm_EX b x) false [.ref 8, .int (nI j), .int (nI c0)] n M) (fun _ _ _ _ _ => True) (fx_Q fm_lay fm_nf fm_fk fm_cl b x D dA (fun r n' M' => r = some (.int (nI (am_done sc tbl j c0 m0))) ∧ n' = n ∧ hc_M M' mm (am_rounds sc tbl j c0 m0) ∧ am_W (am_rounds sc tbl j c0 m0) ∧ fr_H mm M M') (fun _ _ _ => False) 1 6) := by
  refine fx_enter (by decide) (Nat.le_of_ble_eq_true rfl) ?_
  intro p e s m args below meth c9 hc hr hnm hex htg htab
  have hlo := isM_lo hM
  refine fm_iload_n hc d_An_step_0 rfl rfl ?_
  refine fm_callS (av := [.int (nI j)]) (rest := []) (y := y_An_isHost) (bytes := b_An_isHost) hc fm_T0_good (fm_EX_st b x) hex q_397 q_1 q_395 q_396 pd_An_isHost (c_An_isHost_ok (in4_of hj)) ⟨rfl, rfl, Nat.le_of_ble_eq_true rfl, Nat.le_of_ble_eq_true rfl⟩ ⟨Nat.le_of_ble_eq_true rfl, Nat.le_of_ble_eq_true rfl⟩ d_An_step_1 (Nat.le_of_ble_eq_true rfl) (fun r n2 M2 hp => ?_)
  obtain ⟨rfl, hq1, hq2⟩ := hp
  replace hq1 := hq1.symm
  replace hq2 := hq2.symm
  subst hq1 hq2
  refine fm_cnt (z' := (0, 0)) rfl (fm_st (st' := [.int (nI 1)]) rfl ?_)
  refine fm_if_eq (tgt := 18) hc d_An_step_4 rfl (fun g => absurd g (by decide)) (fun _ => ?_)
  refine fm_iload_n hc d_An_step_7 rfl rfl ?_
  refine fm_iconst (v := nI 1) hc d_An_step_8 rfl ?_
  refine fm_icmp_lt (tgt := 18) hc d_An_step_9 rfl (fun g => absurd g (hnlt (a := c0) (c := 1) (by omega) (by omega))) (fun _ => ?_)
  refine fm_iload_n hc d_An_step_12 rfl rfl ?_
  refine fm_bipush (v := nI 40) hc d_An_step_13 rfl ?_
  refine fm_icmp_le (tgt := 26) hc d_An_step_15 rfl (fun _ => ?_) (fun g => absurd (nI_le (by omega) (by omega)) g)
  refine fm_aload_n hc d_An_step_26 rfl rfl ?_
  refine fm_getR (k := 2) (q := 15) hc K_An d_An_step_27 q_357 rfl (by decide) (by omega) (by decide) (by decide) (by decide) rfl (ap_2 hA) ?_
  refine fm_iload_n hc d_An_step_30 rfl rfl ?_
  refine fm_aald (q := 90 + 124 * j) (j := j) (len := 4) hc 5 d_An_step_31 (by decide) (by omega) (by decide) (by decide) rfl (by omega) (by decide) (ap_site hA hj) ?_
  refine fm_getI (k := 1) hc K_Si d_An_step_32 q_334 rfl (by omega) (by omega) (ly_Si hj) (by decide) (by decide) rfl ?_
  refine fm_if_ne (tgt := 46) hc d_An_step_35 rfl (fun _ => ?_) (fun g => absurd g hu)
  refine fm_iconst (v := nI 0) hc d_An_step_46 rfl ?_
  refine fm_istore_n (lv' := [(3, .int (nI 0)), (0, .ref 8), (1, .int (nI j)), (2, .int (nI c0))]) hc d_An_step_47 rfl (by decide) rfl ?_
  refine fm_iconst (v := nI 0) hc d_An_step_48 rfl ?_
  refine fm_istore (lv' := [(4, .int (nI 0)), (3, .int (nI 0)), (0, .ref 8), (1, .int (nI j)), (2, .int (nI c0))]) hc d_An_step_49 (by decide) rfl ?_
  refine fm_dropl (lv' := [(4, .int (nI 0)), (3, .int (nI (am_done sc tbl j 0 m0))), (0, .ref 8), (1, .int (nI j)), (2, .int (nI c0))]) (by simp [am_done]) ?_
  refine fm_loopI (N := c0) (lv := fun k => [(4, .int (nI k)), (3, .int (nI (am_done sc tbl j k m0))), (0, .ref 8), (1, .int (nI j)), (2, .int (nI c0))]) (I := fun k M' => hc_M M' mm (am_rounds sc tbl j k m0) ∧ am_W (am_rounds sc tbl j k m0) ∧ fr_H mm M M') (fun k Mk hk hI ih => ?_) (fun Mk hI => ?_) ⟨h, hW, frH_rf mm M⟩
  · obtain ⟨i1, i2, i3⟩ := hI
    have hAk := AP_of i3.1 hA
    refine fm_iload hc d_An_step_51 rfl ?_
    refine fm_iload_n hc d_An_step_53 rfl rfl ?_
    refine fm_icmp_ge (tgt := 71) hc d_An_step_54 rfl (fun g => absurd g (hnle (a := c0) (c := k) hk (by omega))) (fun _ => ?_)
    refine fm_iload_n hc d_An_step_57 rfl rfl ?_
    refine fm_aload_n hc d_An_step_58 rfl rfl ?_
    refine fm_iload_n hc d_An_step_59 rfl rfl ?_
    refine fm_callV (av := [.int (nI j)]) (rest := [.int (nI (am_done sc tbl j k m0))]) (ob := 8) (ci := 0) (r0 := ("AgentNet", F_An, 8)) (y := y_An_round) (bytes := b_An_round) hc fm_T0_good (fm_EX_st b x) hex q_690 q_1 q_687 q_689 qs_An_round pd_An_round (by decide) (by omega) (by decide) (by decide) rfl rfl (c_roundW (sc := sc) (tbl := tbl) (m0 := (am_rounds sc tbl j k m0)) hn hAk (NP_of i3.1 hN) hj hM (by rw [i3.1]; exact hm) (MP_of i3.1 hP) (fun q hq => hsS_H hlo.1 hq i3 (hsc q hq)) (fun c hc8 => by rw [(i3.2 (11 + j) (by omega) (by omega)).1]; exact htb c hc8) i1 i2) ⟨rfl, rfl, Nat.le_of_ble_eq_true rfl, Nat.le_of_ble_eq_true rfl⟩ ⟨Nat.le_of_ble_eq_true rfl, Nat.le_of_ble_eq_true rfl⟩ d_An_step_60 (Nat.le_of_ble_eq_true rfl) (fun r n2 M2 hp => ?_)
    obtain ⟨rfl, hq1, r1, r2, r3⟩ := hp
    replace hq1 := hq1.symm
    subst hq1
    revert r1 r2 r3
    generalize M2 = Ma
    intro r1 r2 r3
    refine fm_cnt (z' := (0, 0)) rfl (fm_st (st' := [.int (nI (am_cnt (am_on (am_rounds sc tbl j k m0)) 8)), .int (nI (am_done sc tbl j k m0))]) rfl ?_)
    refine fm_iadd hc d_An_step_63 ?_
    refine fm_top (congrArg Value.int (nI_add (am_done sc tbl j k m0) (am_cnt (am_on (am_rounds sc tbl j k m0)) 8))) ?_
    refine fm_istore_n (lv' := [(3, .int (nI ((am_done sc tbl j k m0) + (am_cnt (am_on (am_rounds sc tbl j k m0)) 8)))), (4, .int (nI k)), (0, .ref 8), (1, .int (nI j)), (2, .int (nI c0))]) hc d_An_step_64 rfl (by decide) rfl ?_
    refine fm_iinc (v := nI (k + 1)) (lv' := [(4, .int (nI (k + 1))), (3, .int (nI ((am_done sc tbl j k m0) + (am_cnt (am_on (am_rounds sc tbl j k m0)) 8)))), (0, .ref 8), (1, .int (nI j)), (2, .int (nI c0))]) hc d_An_step_65 rfl (nI_1 k) (by decide) rfl ?_
    refine fm_goto (tgt := 51) hc d_An_step_68 rfl ?_
    refine fm_dropl (lv' := [(4, .int (nI (k + 1))), (3, .int (nI ((am_done sc tbl j k m0) + am_cnt (am_on (am_rounds sc tbl j k m0)) 8))), (0, .ref 8), (1, .int (nI j)), (2, .int (nI c0))]) (by simp) ?_
    exact ih _ ⟨r1, r2, frH_tr i3 r3⟩
  · obtain ⟨i1, i2, i3⟩ := hI
    refine fm_iload hc d_An_step_51 rfl ?_
    refine fm_iload_n hc d_An_step_53 rfl rfl ?_
    refine fm_icmp_ge (tgt := 71) hc d_An_step_54 rfl (fun _ => ?_) (fun g => absurd (nI_le (Nat.le_refl _) (by omega)) g)
    refine fm_iload_n hc d_An_step_71 rfl rfl ?_
    exact fx_ret (fm_iret hc hr d_An_step_72 (Nat.le_of_ble_eq_true rfl) (Nat.le_of_ble_eq_true rfl) ⟨rfl, rfl, i1, i2, i3⟩)
