/-! THE CLASS: the wire; sendArrival, sendReceipt -/
abbrev mg_T : Type := Nat × Nat × Int32 × Int32 × Int32 × List Nat
def hc_G (M : fm_M) (o : Nat) (m : mg_T) : Prop := M.1 o 0 = nI (1 - m.1) ∧ M.1 o 1 = nI m.2.1 ∧ M.1 o 2 = m.2.2.1 ∧ M.1 o 3 = m.2.2.2.1 ∧ M.1 o 4 = m.2.2.2.2.1 ∧ im_C M o m.2.2.2.2.2
/-- where the wire's messages lie: place k has message w k, place 20 is the spare one -/
def wi_P (M : fm_M) (w : Nat → Nat) : Prop := M.2.2 16 0 = some 17 ∧ (∀ k, k < 20 → M.2.2 17 k = some (18 + 2 * w k)) ∧ M.2.2 16 2 = some (18 + 2 * w 20) ∧ (∀ k, k < 21 → w k < 21) ∧ (∀ a c, a < 21 → c < 21 → w a = w c → a = c) ∧ (∀ u, u < 21 → M.2.2 (18 + 2 * u) 7 = some (18 + 2 * u + 1))
def hc_W (M : fm_M) (w : Nat → Nat) (ms : List mg_T) : Prop := M.1 16 1 = nI ms.length ∧ ms.length ≤ 20 ∧ ∀ k m, ms[k]? = some m → hc_G M (18 + 2 * w k) m
def wi_send (ms : List mg_T) (m : mg_T) : List mg_T := if ms.length < 20 then ms ++ [m] else ms
def fw_M (M M' : fm_M) : Prop := M'.2 = M.2 ∧ ∀ q, (q < 16 ∨ 60 ≤ q) → M'.1 q = M.1 q
theorem fwM_rf (M : fm_M) : fw_M M M := ⟨rfl, fun _ _ => rfl⟩
theorem fwM_tr {M M1 M2 : fm_M} (h : fw_M M M1) (g : fw_M M1 M2) : fw_M M M2 := ⟨g.1.trans h.1, fun q a => (g.2 q a).trans (h.2 q a)⟩
theorem wiP_of {M M' : fm_M} {w : Nat → Nat} (e : M'.2.2 = M.2.2) (h : wi_P M w) : wi_P M' w := by
  unfold wi_P at *
  rw [e]
  exact h
theorem ly_ms : ∀ u, u < 21 → (fm_lay (18 + 2 * u)).1 = 9 ∧ fm_lay (18 + 2 * u + 1) = (102, 121) := by decide +kernel
theorem ms_of {n u : Nat} (hn : 586 ≤ n) (hu : u < 21) : ms_L n (18 + 2 * u) := ⟨by omega, by omega, by omega, (ly_ms u hu).1, (ly_ms u hu).2⟩
theorem hcG_of {M M' : fm_M} {o : Nat} {m : mg_T} (e0 : M'.1 o = M.1 o) (e1 : M'.1 (o + 1) = M.1 (o + 1)) (h : hc_G M o m) : hc_G M' o m := by
  unfold hc_G im_C at *
  rw [e0, e1]
  exact h
theorem send_le {ms : List mg_T} {m : mg_T} (h : ms.length ≤ 20) : (wi_send ms m).length ≤ 20 := by
  unfold wi_send
  split
  · rw [List.length_append]; simp; omega
  · exact h
theorem hcW_add {M M' : fm_M} {w : Nat → Nat} {ms : List mg_T} {m : mg_T} (hp : wi_P M w) (h : hc_W M w ms) (hl : ms.length < 20) (f : ∀ q, q ≠ 18 + 2 * w ms.length → q ≠ 18 + 2 * w ms.length + 1 → q ≠ 16 → M'.1 q = M.1 q) (e : M'.1 16 1 = nI (ms.length + 1)) (g : hc_G M' (18 + 2 * w ms.length) m) : hc_W M' w (wi_send ms m) := by
  unfold wi_send
  rw [if_pos hl]
  refine ⟨by rw [List.length_append]; exact e, by rw [List.length_append]; exact hl, fun k m' hk => ?_⟩
  rcases ap_at hk with ⟨h1, h2⟩ | ⟨h1, h2⟩
  · have hk' : k < ms.length := (List.getElem?_eq_some_iff.mp h2).1
    have hne : w k ≠ w ms.length := fun q => h1 (hp.2.2.2.2.1 k ms.length (by omega) (by omega) q)
    exact hcG_of (f _ (by omega) (by omega) (by omega)) (f _ (by omega) (by omega) (by omega)) (h.2.2 k m' h2)
  · rw [h1, h2]
    exact g
theorem hcW_of {M M' : fm_M} {w : Nat → Nat} {ms : List mg_T} (hp : wi_P M w) (f : ∀ q, 16 ≤ q → q < 60 → M'.1 q = M.1 q) (h : hc_W M w ms) : hc_W M' w ms := by
  refine ⟨by rw [f 16 (by omega) (by omega)]; exact h.1, h.2.1, fun k m hk => ?_⟩
  have hk' : k < ms.length := (List.getElem?_eq_some_iff.mp hk).1
  have h20 := h.2.1
  have := hp.2.2.2.1 k (by omega)
  exact hcG_of (f _ (by omega) (by omega)) (f _ (by omega) (by omega)) (h.2.2 k m hk)
theorem c_isFull1 {l : Launch} {b : Nat} {x : Nat → Nat} {D : va_G} {dA : Nat → ClassId} {ln : Nat} {n : Nat} {M : fm_M} (hn : 586 ≤ n) (hd : M.1 16 1 = nI ln) (h20 : ¬ ln < 20) (h21 : ln < 100) : Met l y_Wi_isFull (Cond.code y_Wi_isFull b_Wi_isFull 1 (some .boolean) :: fm_T0) ({ frames := 0, cells := 0, slots := 0, locals := 0 }) (fm_Pc fm_lay fm_nf fm_fk fm_cl b x D dA (fm_tys dA) (fm_EX b x) false [.ref 16] n M) (fm_Qc fm_lay fm_nf fm_fk fm_cl b x D dA (fun r n' M' => r = some (.int (nI 1)) ∧ n' = n ∧ M' = M)) 0 0 (fm_A b) := by
  refine fm_enter (by decide) (Nat.le_of_ble_eq_true rfl) ?_
  intro p e s m args below meth c9 hc hr hnm hex htg
  refine fm_aload_n hc d_Wi_isFull_0 rfl rfl ?_
  refine fm_getI (k := 1) hc K_Wi d_Wi_isFull_1 q_84 rfl (by decide) (by omega) (by decide) (by decide) (by decide) rfl ?_
  refine fm_top (congrArg Value.int (show M.1 16 1 = nI ln from hd)) ?_
  refine fm_bipush (v := nI 20) hc d_Wi_isFull_4 rfl ?_
  refine fm_icmp_lt (tgt := 13) hc d_Wi_isFull_6 rfl (fun g => absurd g (hnlt (a := ln) (c := 20) (by omega) (by omega))) (fun _ => ?_)
  refine fm_iconst (v := nI 1) hc d_Wi_isFull_9 rfl ?_
  refine fm_goto (tgt := 14) hc d_Wi_isFull_10 rfl ?_
  exact fm_zret (ty := .boolean) hc hr (by first | rfl | decide) d_Wi_isFull_14 (Nat.le_refl _) (Nat.le_refl _) ⟨rfl, rfl, rfl⟩
theorem c_isFull0 {l : Launch} {b : Nat} {x : Nat → Nat} {D : va_G} {dA : Nat → ClassId} {ln : Nat} {n : Nat} {M : fm_M} (hn : 586 ≤ n) (hd : M.1 16 1 = nI ln) (h20 : ln < 20) : Met l y_Wi_isFull (Cond.code y_Wi_isFull b_Wi_isFull 1 (some .boolean) :: fm_T0) ({ frames := 0, cells := 0, slots := 0, locals := 0 }) (fm_Pc fm_lay fm_nf fm_fk fm_cl b x D dA (fm_tys dA) (fm_EX b x) false [.ref 16] n M) (fm_Qc fm_lay fm_nf fm_fk fm_cl b x D dA (fun r n' M' => r = some (.int (nI 0)) ∧ n' = n ∧ M' = M)) 0 0 (fm_A b) := by
  refine fm_enter (by decide) (Nat.le_of_ble_eq_true rfl) ?_
  intro p e s m args below meth c9 hc hr hnm hex htg
  refine fm_aload_n hc d_Wi_isFull_0 rfl rfl ?_
  refine fm_getI (k := 1) hc K_Wi d_Wi_isFull_1 q_84 rfl (by decide) (by omega) (by decide) (by decide) (by decide) rfl ?_
  refine fm_top (congrArg Value.int (show M.1 16 1 = nI ln from hd)) ?_
  refine fm_bipush (v := nI 20) hc d_Wi_isFull_4 rfl ?_
  refine fm_icmp_lt (tgt := 13) hc d_Wi_isFull_6 rfl (fun _ => ?_) (fun g => absurd (nI_lt (by omega) (by omega)) g)
  refine fm_iconst (v := nI 0) hc d_Wi_isFull_13 rfl ?_
  exact fm_zret (ty := .boolean) hc hr (by first | rfl | decide) d_Wi_isFull_14 (Nat.le_refl _) (Nat.le_refl _) ⟨rfl, rfl, rfl⟩
theorem hcA_eq {t : Nat} {M M' : fm_M} {A : ag_T} (e : M'.1 t = M.1 t) (e2 : M'.2 = M.2) (h : hc_A M t A) : hc_A M' t A := by
  unfold hc_A at *
  rw [e, e2]
  exact h
theorem c_sendArr {l : Launch} {b : Nat} {x : Nat → Nat} {D : va_G} {dA : Nat → ClassId} {t : Nat} {f t2 : Int32} {A : ag_T} {n : Nat} {w : Nat → Nat} {ms : List mg_T} {M : fm_M} (hn : 586 ≤ n) (hp : wi_P M w) (h : hc_W M w ms) (hT : tr_L n t) (hq : tr_P M t) (hA : hc_A M t A) (ok : ag_ok A) (hf : A.1 3 < 256) (hb : A.1 7 ≤ 1) : Met l y_Wi_sendArrival (Cond.code y_Wi_sendArrival b_Wi_sendArrival 4 none :: fm_T0) ({ frames := 3, cells := 0, slots := 0, locals := 100 }) (fm_Pc fm_lay fm_nf fm_fk fm_cl b x D dA (fm_tys dA) (fm_EX b x) false [.ref 16, .ref t, .int f, .int t2] n M) (fm_Qc fm_lay fm_nf fm_fk fm_cl b x D dA (fun r n' M' => r = none ∧ n' = n ∧ hc_W M' w (wi_send ms (0, A.1 0, nI (A.1 4), f, t2, im_B A)) ∧ fw_M M M')) 0 0 (fm_A b) := by
  refine fm_enter (by decide) (Nat.le_of_ble_eq_true rfl) ?_
  intro p e s m args below meth c9 hc hr hnm hex htg
  have hle := h.2.1
  by_cases g : ms.length < 20
  · obtain ⟨o, ho⟩ : ∃ o, o = 18 + 2 * w ms.length := ⟨_, rfl⟩
    have hwl := hp.2.2.2.1 ms.length (by omega)
    have hL : ms_L n o := by rw [ho]; exact ms_of hn hwl
    have ho1 := hL.1
    have ho2 := hL.2.1
    have hpo : M.2.2 17 ms.length = some o := by rw [ho]; exact hp.2.1 _ g
    have h7 : M.2.2 o 7 = some (o + 1) := by rw [ho]; exact hp.2.2.2.2.2 _ hwl
    have ht1 := hT.1
    have ht2 := hT.2.1
    refine fm_aload_n hc d_Wi_sendArrival_0 rfl rfl ?_
    refine fm_callV (av := []) (rest := []) (ob := 16) (ci := 4) (r0 := ("AgentNet$Wire", F_Wi, 3)) (y := y_Wi_isFull) (bytes := b_Wi_isFull) hc fm_T0_good (fm_EX_st b x) hex q_729 q_2 q_726 q_727 q_728 pd_Wi_isFull (by decide) (by omega) (by decide) (by decide) rfl rfl (c_isFull0 hn h.1 g) ⟨rfl, rfl, Nat.le_of_ble_eq_true rfl, Nat.le_of_ble_eq_true rfl⟩ ⟨Nat.le_of_ble_eq_true rfl, Nat.le_of_ble_eq_true rfl⟩ d_Wi_sendArrival_1 (Nat.le_of_ble_eq_true rfl) (fun r n2 M2 hp => ?_)
    obtain ⟨rfl, hq1, hq2⟩ := hp
    replace hq1 := hq1.symm
    replace hq2 := hq2.symm
    subst hq1 hq2
    refine fm_cnt (z' := (0, 0)) rfl (fm_st (st' := [.int (nI 0)]) rfl ?_)
    refine fm_if_ne (tgt := 52) hc d_Wi_sendArrival_4 rfl (fun g => absurd (by decide) g) (fun _ => ?_)
    refine fm_aload_n hc d_Wi_sendArrival_7 rfl rfl ?_
    refine fm_getR (k := 0) (q := 17) hc K_Wi d_Wi_sendArrival_8 q_82 rfl (by decide) (by omega) (by decide) (by decide) (by decide) rfl hp.1 ?_
    refine fm_aload_n hc d_Wi_sendArrival_11 rfl rfl ?_
    refine fm_getI (k := 1) hc K_Wi d_Wi_sendArrival_12 q_84 rfl (by decide) (by omega) (by decide) (by decide) (by decide) rfl ?_
    refine fm_top (congrArg Value.int (show M.1 16 1 = nI ms.length from h.1)) ?_
    refine fm_aald (q := o) (j := ms.length) (len := 20) hc 6 d_Wi_sendArrival_15 (by decide) (by omega) (by decide) (by decide) rfl (by omega) (by decide) hpo ?_
    refine fm_aload_n hc d_Wi_sendArrival_16 rfl rfl ?_
    refine fm_getI (k := 0) hc K_Tr d_Wi_sendArrival_17 q_174 rfl (by omega) (by omega) hT.2.2.1 (by decide) (by decide) rfl ?_
    refine fm_top (congrArg Value.int (show M.1 t 0 = nI (A.1 0) from (hA.1 0 (by decide)))) ?_
    refine fm_aload_n hc d_Wi_sendArrival_20 rfl rfl ?_
    refine fm_getI (k := 4) hc K_Tr d_Wi_sendArrival_21 q_189 rfl (by omega) (by omega) hT.2.2.1 (by decide) (by decide) rfl ?_
    refine fm_top (congrArg Value.int (show M.1 t 4 = nI (A.1 4) from (hA.1 4 (by decide)))) ?_
    refine fm_iload_n hc d_Wi_sendArrival_24 rfl rfl ?_
    refine fm_iload_n hc d_Wi_sendArrival_25 rfl rfl ?_
    refine fm_callV (av := [.int (nI (A.1 0)), .int (nI (A.1 4)), .int f, .int t2]) (rest := []) (ob := o) (ci := 9) (r0 := ("AgentNet$Message", F_Ms, 8)) (y := y_Ms_address) (bytes := b_Ms_address) hc fm_T0_good (fm_EX_st b x) hex q_733 q_3 q_730 q_731 q_732 pd_Ms_address (by omega) (by omega) hL.2.2.2.1 (by decide) rfl rfl (c_address hL) ⟨rfl, rfl, Nat.le_of_ble_eq_true rfl, Nat.le_of_ble_eq_true rfl⟩ ⟨Nat.le_of_ble_eq_true rfl, Nat.le_of_ble_eq_true rfl⟩ d_Wi_sendArrival_26 (Nat.le_of_ble_eq_true rfl) (fun r n2 M2 hp => ?_)
    obtain ⟨rfl, hq1, hq2⟩ := hp
    replace hq1 := hq1.symm
    subst hq1
    have e2 : M2.2 = M.2 := by rw [hq2]; rfl
    have a0 : M2.1 o 0 = nI 0 := by rw [hq2]; simp [fm_put1, va_up]
    have a1 : M2.1 o 1 = nI (A.1 0) := by rw [hq2]; simp [fm_put1, va_up]
    have a2 : M2.1 o 2 = nI (A.1 4) := by rw [hq2]; simp [fm_put1, va_up]
    have a3 : M2.1 o 3 = f := by rw [hq2]; simp [fm_put1, va_up]
    have a4 : M2.1 o 4 = t2 := by rw [hq2]; simp [fm_put1, va_up]
    have a5 : M2.1 o 5 = nI 0 := by rw [hq2]; simp [fm_put1, va_up]
    have ex : ∀ q, q ≠ o → M2.1 q = M.1 q := fun q hne => by rw [hq2]; simp [fm_put1, va_up, hne]
    clear hq2
    revert e2 a0 a1 a2 a3 a4 a5 ex
    generalize M2 = Ma
    intro e2 a0 a1 a2 a3 a4 a5 ex
    have hAa : hc_A Ma t A := hcA_eq (ex t (by omega)) (by rw [e2]) hA
    have hqa : tr_P Ma t := by unfold tr_P; rw [e2]; exact hq
    refine fm_cnt (z' := (0, 0)) rfl (fm_st (st' := []) rfl ?_)
    refine fm_aload_n hc d_Wi_sendArrival_29 rfl rfl ?_
    refine fm_getR (k := 0) (q := 17) hc K_Wi d_Wi_sendArrival_30 q_82 rfl (by decide) (by omega) (by decide) (by decide) (by decide) rfl (by rw [e2]; exact hp.1) ?_
    refine fm_aload_n hc d_Wi_sendArrival_33 rfl rfl ?_
    refine fm_getI (k := 1) hc K_Wi d_Wi_sendArrival_34 q_84 rfl (by decide) (by omega) (by decide) (by decide) (by decide) rfl ?_
    refine fm_top (congrArg Value.int (show Ma.1 16 1 = nI ms.length from (by rw [ex 16 (by omega)]; exact h.1))) ?_
    refine fm_aald (q := o) (j := ms.length) (len := 20) hc 6 d_Wi_sendArrival_37 (by decide) (by omega) (by decide) (by decide) rfl (by omega) (by decide) (by rw [e2]; exact hpo) ?_
    refine fm_aload_n hc d_Wi_sendArrival_38 rfl rfl ?_
    refine fm_callV (av := [.ref t]) (rest := []) (ob := o) (ci := 9) (r0 := ("AgentNet$Message", F_Ms, 8)) (y := y_Ms_pack) (bytes := b_Ms_pack) hc fm_T0_good (fm_EX_st b x) hex q_737 q_3 q_734 q_735 q_736 pd_Ms_pack (by omega) (by omega) hL.2.2.2.1 (by decide) rfl rfl (c_pack hL (by rw [e2]; exact h7) hT hqa hAa ok hf hb a5) ⟨rfl, rfl, Nat.le_of_ble_eq_true rfl, Nat.le_of_ble_eq_true rfl⟩ ⟨Nat.le_of_ble_eq_true rfl, Nat.le_of_ble_eq_true rfl⟩ d_Wi_sendArrival_39 (Nat.le_of_ble_eq_true rfl) (fun r n2 M2 hp => ?_)
    obtain ⟨rfl, hq1, i1, f1⟩ := hp
    replace hq1 := hq1.symm
    subst hq1
    revert i1 f1
    generalize M2 = Mb
    intro i1 f1
    have eb : ∀ q, q ≠ o → q ≠ o + 1 → Mb.1 q = M.1 q := fun q c1 c2 => funext (fun i => (f1.2 q i c2 (by omega)).trans ((p1_other c1).trans (congrFun (ex q c1) i)))
    have bo : ∀ j, j ≠ 5 → j ≠ 0 → Mb.1 o j = Ma.1 o j := fun j c1 c0 => (f1.2 o j (by omega) (by omega)).trans (p1_at c0)
    have b0 : Mb.1 o 0 = nI 1 := (f1.2 o 0 (by omega) (by omega)).trans (p1_same _ _ _ _)
    refine fm_cnt (z' := (0, 0)) rfl (fm_st (st' := []) rfl ?_)
    refine fm_aload_n hc d_Wi_sendArrival_42 rfl rfl ?_
    refine fm_dup hc d_Wi_sendArrival_43 rfl ?_
    refine fm_getI (k := 1) hc K_Wi d_Wi_sendArrival_44 q_84 rfl (by decide) (by omega) (by decide) (by decide) (by decide) rfl ?_
    refine fm_top (congrArg Value.int (show Mb.1 16 1 = nI ms.length from (by rw [eb 16 (by omega) (by omega)]; exact h.1))) ?_
    refine fm_iconst (v := nI 1) hc d_Wi_sendArrival_47 rfl ?_
    refine fm_iadd hc d_Wi_sendArrival_48 ?_
    refine fm_top (congrArg Value.int (nI_add ms.length 1)) ?_
    have fin1 : hc_W (fm_put1 Mb 16 1 (nI (ms.length + 1))) w (wi_send ms (0, A.1 0, nI (A.1 4), f, t2, im_B A)) := by
      refine hcW_add hp h g (fun q c1 c2 c3 => ?_) (p1_same _ _ _ _) ?_
      · rw [← ho] at c1 c2
        exact (funext (fun i => p1_other c3)).trans (eb q c1 c2)
      · rw [← ho]
        have e0 : (fm_put1 Mb 16 1 (nI (ms.length + 1))).1 o = Mb.1 o := funext (fun i => p1_other (by omega))
        have e1 : (fm_put1 Mb 16 1 (nI (ms.length + 1))).1 (o + 1) = Mb.1 (o + 1) := funext (fun i => p1_other (by omega))
        exact hcG_of e0 e1 ⟨b0, (bo 1 (by decide) (by decide)).trans a1, (bo 2 (by decide) (by decide)).trans a2, (bo 3 (by decide) (by decide)).trans a3, (bo 4 (by decide) (by decide)).trans a4, i1⟩
    have fin2 : fw_M M (fm_put1 Mb 16 1 (nI (ms.length + 1))) := ⟨f1.1.trans e2, fun q c => (funext (fun i => p1_other (by omega))).trans (eb q (by omega) (by omega))⟩
    refine fm_putI (k := 1) (v := nI (ms.length + 1)) hc K_Wi d_Wi_sendArrival_49 q_84 rfl (by decide) (by omega) (by decide) (by decide) (by decide) rfl rfl rfl rfl ?_
    exact fm_vret hc hr d_Wi_sendArrival_52 (Nat.le_refl _) (Nat.le_refl _) ⟨rfl, rfl, fin1, fin2⟩
  · refine fm_aload_n hc d_Wi_sendArrival_0 rfl rfl ?_
    refine fm_callV (av := []) (rest := []) (ob := 16) (ci := 4) (r0 := ("AgentNet$Wire", F_Wi, 3)) (y := y_Wi_isFull) (bytes := b_Wi_isFull) hc fm_T0_good (fm_EX_st b x) hex q_729 q_2 q_726 q_727 q_728 pd_Wi_isFull (by decide) (by omega) (by decide) (by decide) rfl rfl (c_isFull1 hn h.1 g (by omega)) ⟨rfl, rfl, Nat.le_of_ble_eq_true rfl, Nat.le_of_ble_eq_true rfl⟩ ⟨Nat.le_of_ble_eq_true rfl, Nat.le_of_ble_eq_true rfl⟩ d_Wi_sendArrival_1 (Nat.le_of_ble_eq_true rfl) (fun r n2 M2 hp => ?_)
    obtain ⟨rfl, hq1, hq2⟩ := hp
    replace hq1 := hq1.symm
    replace hq2 := hq2.symm
    subst hq1 hq2
    refine fm_cnt (z' := (0, 0)) rfl (fm_st (st' := [.int (nI 1)]) rfl ?_)
    refine fm_if_ne (tgt := 52) hc d_Wi_sendArrival_4 rfl (fun _ => ?_) (fun g => absurd g (by decide))
    exact fm_vret hc hr d_Wi_sendArrival_52 (Nat.le_refl _) (Nat.le_refl _) ⟨rfl, rfl, by unfold wi_send; rw [if_neg g]; exact h, fwM_rf M⟩
theorem c_sendRec {l : Launch} {b : Nat} {x : Nat → Nat} {D : va_G} {dA : Nat → ClassId} {a : Nat} {v f t2 : Int32} {n : Nat} {w : Nat → Nat} {ms : List mg_T} {M : fm_M} (hn : 586 ≤ n) (hp : wi_P M w) (h : hc_W M w ms) : Met l y_Wi_sendReceipt (Cond.code y_Wi_sendReceipt b_Wi_sendReceipt 5 none :: fm_T0) ({ frames := 1, cells := 0, slots := 0, locals := 40 }) (fm_Pc fm_lay fm_nf fm_fk fm_cl b x D dA (fm_tys dA) (fm_EX b x) false [.ref 16, .int (nI a), .int v, .int f, .int t2] n M) (fm_Qc fm_lay fm_nf fm_fk fm_cl b x D dA (fun r n' M' => r = none ∧ n' = n ∧ hc_W M' w (wi_send ms (1, a, v, f, t2, [])) ∧ fw_M M M')) 0 0 (fm_A b) := by
  refine fm_enter (by decide) (Nat.le_of_ble_eq_true rfl) ?_
  intro p e s m args below meth c9 hc hr hnm hex htg
  have hle := h.2.1
  by_cases g : ms.length < 20
  · obtain ⟨o, ho⟩ : ∃ o, o = 18 + 2 * w ms.length := ⟨_, rfl⟩
    have hwl := hp.2.2.2.1 ms.length (by omega)
    have hL : ms_L n o := by rw [ho]; exact ms_of hn hwl
    have ho1 := hL.1
    have ho2 := hL.2.1
    have hpo : M.2.2 17 ms.length = some o := by rw [ho]; exact hp.2.1 _ g
    have h7 : M.2.2 o 7 = some (o + 1) := by rw [ho]; exact hp.2.2.2.2.2 _ hwl
    refine fm_aload_n hc d_Wi_sendReceipt_0 rfl rfl ?_
    refine fm_callV (av := []) (rest := []) (ob := 16) (ci := 4) (r0 := ("AgentNet$Wire", F_Wi, 3)) (y := y_Wi_isFull) (bytes := b_Wi_isFull) hc fm_T0_good (fm_EX_st b x) hex q_729 q_2 q_726 q_727 q_728 pd_Wi_isFull (by decide) (by omega) (by decide) (by decide) rfl rfl (c_isFull0 hn h.1 g) ⟨rfl, rfl, Nat.le_of_ble_eq_true rfl, Nat.le_of_ble_eq_true rfl⟩ ⟨Nat.le_of_ble_eq_true rfl, Nat.le_of_ble_eq_true rfl⟩ d_Wi_sendReceipt_1 (Nat.le_of_ble_eq_true rfl) (fun r n2 M2 hp => ?_)
    obtain ⟨rfl, hq1, hq2⟩ := hp
    replace hq1 := hq1.symm
    replace hq2 := hq2.symm
    subst hq1 hq2
    refine fm_cnt (z' := (0, 0)) rfl (fm_st (st' := [.int (nI 0)]) rfl ?_)
    refine fm_if_ne (tgt := 34) hc d_Wi_sendReceipt_4 rfl (fun g => absurd (by decide) g) (fun _ => ?_)
    refine fm_aload_n hc d_Wi_sendReceipt_7 rfl rfl ?_
    refine fm_getR (k := 0) (q := 17) hc K_Wi d_Wi_sendReceipt_8 q_82 rfl (by decide) (by omega) (by decide) (by decide) (by decide) rfl hp.1 ?_
    refine fm_aload_n hc d_Wi_sendReceipt_11 rfl rfl ?_
    refine fm_getI (k := 1) hc K_Wi d_Wi_sendReceipt_12 q_84 rfl (by decide) (by omega) (by decide) (by decide) (by decide) rfl ?_
    refine fm_top (congrArg Value.int (show M.1 16 1 = nI ms.length from h.1)) ?_
    refine fm_aald (q := o) (j := ms.length) (len := 20) hc 6 d_Wi_sendReceipt_15 (by decide) (by omega) (by decide) (by decide) rfl (by omega) (by decide) hpo ?_
    refine fm_iload_n hc d_Wi_sendReceipt_16 rfl rfl ?_
    refine fm_iload_n hc d_Wi_sendReceipt_17 rfl rfl ?_
    refine fm_iload_n hc d_Wi_sendReceipt_18 rfl rfl ?_
    refine fm_iload hc d_Wi_sendReceipt_19 rfl ?_
    refine fm_callV (av := [.int (nI a), .int v, .int f, .int t2]) (rest := []) (ob := o) (ci := 9) (r0 := ("AgentNet$Message", F_Ms, 8)) (y := y_Ms_address) (bytes := b_Ms_address) hc fm_T0_good (fm_EX_st b x) hex q_733 q_3 q_730 q_731 q_732 pd_Ms_address (by omega) (by omega) hL.2.2.2.1 (by decide) rfl rfl (c_address hL) ⟨rfl, rfl, Nat.le_of_ble_eq_true rfl, Nat.le_of_ble_eq_true rfl⟩ ⟨Nat.le_of_ble_eq_true rfl, Nat.le_of_ble_eq_true rfl⟩ d_Wi_sendReceipt_21 (Nat.le_of_ble_eq_true rfl) (fun r n2 M2 hp => ?_)
    obtain ⟨rfl, hq1, hq2⟩ := hp
    replace hq1 := hq1.symm
    subst hq1
    have e2 : M2.2 = M.2 := by rw [hq2]; rfl
    have a0 : M2.1 o 0 = nI 0 := by rw [hq2]; simp [fm_put1, va_up]
    have a1 : M2.1 o 1 = nI a := by rw [hq2]; simp [fm_put1, va_up]
    have a2 : M2.1 o 2 = v := by rw [hq2]; simp [fm_put1, va_up]
    have a3 : M2.1 o 3 = f := by rw [hq2]; simp [fm_put1, va_up]
    have a4 : M2.1 o 4 = t2 := by rw [hq2]; simp [fm_put1, va_up]
    have a5 : M2.1 o 5 = nI 0 := by rw [hq2]; simp [fm_put1, va_up]
    have ex : ∀ q, q ≠ o → M2.1 q = M.1 q := fun q hne => by rw [hq2]; simp [fm_put1, va_up, hne]
    clear hq2
    revert e2 a0 a1 a2 a3 a4 a5 ex
    generalize M2 = Ma
    intro e2 a0 a1 a2 a3 a4 a5 ex
    refine fm_cnt (z' := (0, 0)) rfl (fm_st (st' := []) rfl ?_)
    refine fm_aload_n hc d_Wi_sendReceipt_24 rfl rfl ?_
    refine fm_dup hc d_Wi_sendReceipt_25 rfl ?_
    refine fm_getI (k := 1) hc K_Wi d_Wi_sendReceipt_26 q_84 rfl (by decide) (by omega) (by decide) (by decide) (by decide) rfl ?_
    refine fm_top (congrArg Value.int (show Ma.1 16 1 = nI ms.length from (by rw [ex 16 (by omega)]; exact h.1))) ?_
    refine fm_iconst (v := nI 1) hc d_Wi_sendReceipt_29 rfl ?_
    refine fm_iadd hc d_Wi_sendReceipt_30 ?_
    refine fm_top (congrArg Value.int (nI_add ms.length 1)) ?_
    have fin1 : hc_W (fm_put1 Ma 16 1 (nI (ms.length + 1))) w (wi_send ms (1, a, v, f, t2, [])) := by
      refine hcW_add hp h g (fun q c1 c2 c3 => ?_) (p1_same _ _ _ _) ?_
      · rw [← ho] at c1 c2
        exact (funext (fun i => p1_other c3)).trans (ex q c1)
      · rw [← ho]
        have e0 : (fm_put1 Ma 16 1 (nI (ms.length + 1))).1 o = Ma.1 o := funext (fun i => p1_other (by omega))
        have e1 : (fm_put1 Ma 16 1 (nI (ms.length + 1))).1 (o + 1) = Ma.1 (o + 1) := funext (fun i => p1_other (by omega))
        exact hcG_of e0 e1 ⟨a0, a1, a2, a3, a4, a5, fun i v hv => by simp at hv⟩
    have fin2 : fw_M M (fm_put1 Ma 16 1 (nI (ms.length + 1))) := ⟨e2, fun q c => (funext (fun i => p1_other (by omega))).trans (ex q (by omega))⟩
    refine fm_putI (k := 1) (v := nI (ms.length + 1)) hc K_Wi d_Wi_sendReceipt_31 q_84 rfl (by decide) (by omega) (by decide) (by decide) (by decide) rfl rfl rfl rfl ?_
    exact fm_vret hc hr d_Wi_sendReceipt_34 (Nat.le_refl _) (Nat.le_refl _) ⟨rfl, rfl, fin1, fin2⟩
  · refine fm_aload_n hc d_Wi_sendReceipt_0 rfl rfl ?_
    refine fm_callV (av := []) (rest := []) (ob := 16) (ci := 4) (r0 := ("AgentNet$Wire", F_Wi, 3)) (y := y_Wi_isFull) (bytes := b_Wi_isFull) hc fm_T0_good (fm_EX_st b x) hex q_729 q_2 q_726 q_727 q_728 pd_Wi_isFull (by decide) (by omega) (by decide) (by decide) rfl rfl (c_isFull1 hn h.1 g (by omega)) ⟨rfl, rfl, Nat.le_of_ble_eq_true rfl, Nat.le_of_ble_eq_true rfl⟩ ⟨Nat.le_of_ble_eq_true rfl, Nat.le_of_ble_eq_true rfl⟩ d_Wi_sendReceipt_1 (Nat.le_of_ble_eq_true rfl) (fun r n2 M2 hp => ?_)
    obtain ⟨rfl, hq1, hq2⟩ := hp
    replace hq1 := hq1.symm
    replace hq2 := hq2.symm
    subst hq1 hq2
    refine fm_cnt (z' := (0, 0)) rfl (fm_st (st' := [.int (nI 1)]) rfl ?_)
    refine fm_if_ne (tgt := 34) hc d_Wi_sendReceipt_4 rfl (fun _ => ?_) (fun g => absurd g (by decide))
    exact fm_vret hc hr d_Wi_sendReceipt_34 (Nat.le_refl _) (Nat.le_refl _) ⟨rfl, rfl, by unfold wi_send; rw [if_neg g]; exact h, fwM_rf M⟩
