/-! SEALED, on any state -/
def sx_h (sl hp : Nat → Nat) (k : Nat) : Nat := if sl k = 0 then 0 else hp k + 1
def sx_m (sl hp : Nat → Nat) : Nat → Nat
  | 0 => 0
  | k + 1 => if sx_m sl hp k < sx_h sl hp k then sx_h sl hp k else sx_m sl hp k
def sx_l (sl hp : Nat → Nat) (t : Nat) : Nat → Nat
  | 0 => 0
  | k + 1 => sx_l sl hp t k + (if sx_h sl hp k = t ∧ sl k = 2 then 1 else 0)
def sx_s (sl hp : Nat → Nat) (t : Nat) : Nat → Nat
  | 0 => 0
  | k + 1 => sx_s sl hp t k + (if sx_h sl hp k = t ∧ ¬ sl k = 2 ∧ ¬ sl k = 0 then 1 else 0)
def sx_A (sl hp : Nat → Nat) : Int32 := if sx_m sl hp 4 = 0 then -1 else nI (100 * (sx_m sl hp 4 - 1) + (if 0 < sx_s sl hp (sx_m sl hp 4) 4 then sx_s sl hp (sx_m sl hp 4) 4 else sx_l sl hp (sx_m sl hp 4) 4))
theorem kI_ltI {a c : Nat} (ha : a ≤ 1001) (hc : c ≤ 1001) : kI a < kI c ↔ a < c := by
  cases c with
  | zero =>
    constructor
    · intro h
      exfalso
      have h := Int32.lt_iff_toInt_lt.mp h
      have e : (kI 0).toInt = -1 := by decide
      cases a with
      | zero => omega
      | succ a =>
        have e2 : (kI (a + 1)).toInt = (a : Int) := nI_int (by omega)
        omega
    · intro h; omega
  | succ c =>
    cases a with
    | zero =>
      rw [Int32.lt_iff_toInt_lt]
      have e : (kI 0).toInt = -1 := by decide
      have e2 : (kI (c + 1)).toInt = (c : Int) := nI_int (by omega)
      omega
    | succ a =>
      rw [Int32.lt_iff_toInt_lt]
      have e1 : (kI (a + 1)).toInt = (a : Int) := nI_int (by omega)
      have e2 : (kI (c + 1)).toInt = (c : Int) := nI_int (by omega)
      omega
theorem kI_eqI {a c : Nat} (ha : a ≤ 1001) (hc : c ≤ 1001) (h : kI a = kI c) : a = c := by
  rcases Nat.lt_trichotomy a c with g | g | g
  · have := (kI_ltI ha hc).mpr g
    rw [h] at this
    exact absurd this Int32.lt_irrefl
  · exact g
  · have := (kI_ltI hc ha).mpr g
    rw [h] at this
    exact absurd this Int32.lt_irrefl
theorem sx_hb {sl hp : Nat → Nat} (h : ∀ k, k < 4 → sl k ≠ 0 → hp k ≤ 1000) {k : Nat} (hk : k < 4) : sx_h sl hp k ≤ 1001 := by
  unfold sx_h
  split
  · omega
  · have := h k hk (by assumption)
    omega
theorem sx_mb {sl hp : Nat → Nat} (h : ∀ k, k < 4 → sl k ≠ 0 → hp k ≤ 1000) : ∀ k, k ≤ 4 → sx_m sl hp k ≤ 1001
  | 0, _ => by show 0 ≤ 1001; decide
  | k + 1, hk => by
    have i := sx_mb h k (by omega)
    have j := sx_hb h (k := k) (by omega)
    show (if sx_m sl hp k < sx_h sl hp k then sx_h sl hp k else sx_m sl hp k) ≤ 1001
    split <;> omega
theorem sx_mx {sl hp : Nat → Nat} (h : ∀ k, k < 4 → sl k ≠ 0 → hp k ≤ 1000) {k : Nat} (hk : k < 4) : (if kI (sx_m sl hp k) < kI (sx_h sl hp k) then kI (sx_h sl hp k) else kI (sx_m sl hp k)) = kI (sx_m sl hp (k + 1)) := by
  have i := sx_mb h k (by omega)
  have j := sx_hb h (k := k) hk
  show _ = kI (if sx_m sl hp k < sx_h sl hp k then sx_h sl hp k else sx_m sl hp k)
  by_cases e : sx_m sl hp k < sx_h sl hp k
  · rw [if_pos e, if_pos ((kI_ltI i j).mpr e)]
  · rw [if_neg e, if_neg (fun q => e ((kI_ltI i j).mp q))]
theorem sx_lb {sl hp : Nat → Nat} {t : Nat} : ∀ k, sx_l sl hp t k ≤ k ∧ sx_s sl hp t k ≤ k
  | 0 => ⟨Nat.le_refl 0, Nat.le_refl 0⟩
  | k + 1 => by
    obtain ⟨i, j⟩ := sx_lb (sl := sl) (hp := hp) (t := t) k
    refine ⟨?_, ?_⟩
    · show sx_l sl hp t k + (if sx_h sl hp k = t ∧ sl k = 2 then 1 else 0) ≤ k + 1
      split <;> omega
    · show sx_s sl hp t k + (if sx_h sl hp k = t ∧ ¬ sl k = 2 ∧ ¬ sl k = 0 then 1 else 0) ≤ k + 1
      split <;> omega
theorem kI_pos {t : Nat} (h : ¬ t = 0) : kI t = nI (t - 1) := by
  cases t with
  | zero => exact absurd rfl h
  | succ t => rfl
theorem c_hopsK {l : Launch} {b : Nat} {x : Nat → Nat} {D : va_G} {dA : Nat → ClassId} {mm a k n : Nat} {sl hp : Nat → Nat} {M : fm_M} (hn : 586 ≤ n) (hM : fm_isM mm) (hP : fm_MP M mm) (ha : a < 8) (hs : M.1 (mm + 1) a = nI (sl k)) (hs4 : sl k ≤ 4) (hh : sl k ≠ 0 → M.1 (mm + (9 + 4 * a)) 4 = nI (hp k)) (hp2 : sl k ≠ 0 → hp k ≤ 900) : Met l y_Me_hopsOf (Cond.code y_Me_hopsOf b_Me_hopsOf 2 (some .int) :: fm_T0) ({ frames := 0, cells := 0, slots := 0, locals := 0 }) (fm_Pc fm_lay fm_nf fm_fk fm_cl b x D dA (fm_tys dA) (fm_EX b x) false [.ref mm, .int (nI a)] n M) (fm_Qc fm_lay fm_nf fm_fk fm_cl b x D dA (fun r n' M' => r = some (.int (kI (sx_h sl hp k))) ∧ n' = n ∧ M' = M)) 0 0 (fm_A b) := by
  by_cases e : sl k = 0
  · have q := c_hopsNo (l := l) (b := b) (x := x) (D := D) (dA := dA) hn hM hP ha hs hs4 e
    rw [show sx_h sl hp k = 0 from if_pos e]
    exact q
  · have q := c_hopsYes (l := l) (b := b) (x := x) (D := D) (dA := dA) hn hM hP ha hs hs4 (hh e) (by have := hp2 e; omega) e
    rw [show sx_h sl hp k = hp k + 1 from if_neg e]
    exact q
theorem c_sealed_ok {l : Launch} {b : Nat} {x : Nat → Nat} {D : va_G} {dA : Nat → ClassId} {a n : Nat} {mf sl hp : Nat → Nat} {M : fm_M} (hn : 586 ≤ n) (hA : fm_AP M) (ha : a < 8) (hM : ∀ k, k < 4 → fm_isM (mf k)) (hm : ∀ k, k < 4 → M.2.2 (90 + 124 * k) 4 = some (mf k)) (hP : ∀ k, k < 4 → fm_MP M (mf k)) (hs : ∀ k, k < 4 → M.1 (mf k + 1) a = nI (sl k)) (hs4 : ∀ k, k < 4 → sl k ≤ 4) (hh : ∀ k, k < 4 → sl k ≠ 0 → M.1 (mf k + (9 + 4 * a)) 4 = nI (hp k)) (hp9 : ∀ k, k < 4 → sl k ≠ 0 → hp k ≤ 900) : Met l y_An_sealed (Cond.code y_An_sealed b_An_sealed 7 (some .int) :: fm_T0) ({ frames := 1, cells := 0, slots := 0, locals := 30 }) (fm_Pc fm_lay fm_nf fm_fk fm_cl b x D dA (fm_tys dA) (fm_EX b x) false [.ref 8, .int (nI a)] n M) (fm_Qc fm_lay fm_nf fm_fk fm_cl b x D dA (fun r n' M' => r = some (.int (sx_A sl hp)) ∧ n' = n ∧ M' = M)) 0 0 (fm_A b) := by
  refine fm_enter (by decide) (Nat.le_of_ble_eq_true rfl) ?_
  intro p e s m args below meth c9 hc hr hnm hex htg
  have hb : ∀ k, k < 4 → sl k ≠ 0 → hp k ≤ 1000 := fun k hk e => by have := hp9 k hk e; omega
  have mlo : ∀ k, k < 4 → 91 ≤ mf k ∧ mf k + 41 ≤ 586 := fun k hk => isM_lo (hM k hk)
  refine fm_iload_n hc d_An_sealed_0 rfl rfl ?_
  refine fm_callS (av := [.int (nI a)]) (rest := []) (y := y_An_isAgent) (bytes := b_An_isAgent) hc fm_T0_good (fm_EX_st b x) hex q_416 q_1 q_414 q_415 pd_An_isAgent (c_An_isAgent_ok (in8_of ha)) ⟨rfl, rfl, Nat.le_of_ble_eq_true rfl, Nat.le_of_ble_eq_true rfl⟩ ⟨Nat.le_of_ble_eq_true rfl, Nat.le_of_ble_eq_true rfl⟩ d_An_sealed_1 (Nat.le_of_ble_eq_true rfl) (fun r n2 M2 hp => ?_)
  obtain ⟨rfl, hq1, hq2⟩ := hp
  replace hq1 := hq1.symm
  replace hq2 := hq2.symm
  subst hq1 hq2
  refine fm_cnt (z' := (0, 0)) rfl (fm_st (st' := [.int (nI 1)]) rfl ?_)
  refine fm_if_ne (tgt := 9) hc d_An_sealed_4 rfl (fun _ => ?_) (fun gQ => absurd gQ (by decide))
  refine fm_iconst (v := (-1)) hc d_An_sealed_9 rfl ?_
  refine fm_istore_n (lv' := [(2, .int ((-1))), (0, .ref 8), (1, .int (nI a))]) hc d_An_sealed_10 rfl (by decide) rfl ?_
  refine fm_iconst (v := nI 0) hc d_An_sealed_11 rfl ?_
  refine fm_istore_n (lv' := [(3, .int (nI 0)), (2, .int ((-1))), (0, .ref 8), (1, .int (nI a))]) hc d_An_sealed_12 rfl (by decide) rfl ?_
  refine fm_dropl (lv' := [(3, .int (nI 0)), (2, .int (kI (sx_m sl hp 0))), (0, .ref 8), (1, .int (nI a))]) (by simp [sx_m, kI]) ?_
  refine fm_loop0 (N := 4) (lv := fun k => [(3, .int (nI k)), (2, .int (kI (sx_m sl hp k))), (0, .ref 8), (1, .int (nI a))]) (fun k hk ih => ?_) ?_
  · refine fm_iload_n hc d_An_sealed_13 rfl rfl ?_
    refine fm_iconst (v := nI 4) hc d_An_sealed_14 rfl ?_
    refine fm_icmp_ge (tgt := 42) hc d_An_sealed_15 rfl (fun gQ => absurd gQ (hnleB hk (by decide))) (fun _ => ?_)
    refine fm_iload_n hc d_An_sealed_18 rfl rfl ?_
    refine fm_aload_n hc d_An_sealed_19 rfl rfl ?_
    refine fm_getR (k := 2) (q := 15) hc K_An d_An_sealed_20 q_357 rfl (by decide) (by omega) (by decide) (by decide) (by decide) rfl (ap_2 hA) ?_
    refine fm_iload_n hc d_An_sealed_23 rfl rfl ?_
    refine fm_aald (q := 90 + 124 * k) (j := k) (len := 4) hc 5 d_An_sealed_24 (by decide) (by omega) (by decide) (by decide) rfl (by omega) (by decide) (ap_site hA hk) ?_
    refine fm_getR (k := 4) (q := mf k) hc K_Si d_An_sealed_25 q_340 rfl (by omega) (by omega) (ly_Si hk) (by decide) (by decide) rfl (hm k hk) ?_
    refine fm_iload_n hc d_An_sealed_28 rfl rfl ?_
    refine fm_callV (av := [.int (nI a)]) (rest := [.int (kI (sx_m sl hp k))]) (ob := mf k) (ci := 6) (r0 := ("AgentNet$Memory", F_Me, 6)) (y := y_Me_hopsOf) (bytes := b_Me_hopsOf) hc fm_T0_good (fm_EX_st b x) hex q_444 q_11 q_441 q_442 q_443 pd_Me_hopsOf (by have := mlo k hk; omega) (by have := mlo k hk; omega) (ly_M0 (hM k hk)) (by decide) rfl rfl (c_hopsK (k := k) (sl := sl) (hp := hp) hn (hM k hk) (hP k hk) ha (hs k hk) (hs4 k hk) (hh k hk) (hp9 k hk)) ⟨rfl, rfl, Nat.le_of_ble_eq_true rfl, Nat.le_of_ble_eq_true rfl⟩ ⟨Nat.le_of_ble_eq_true rfl, Nat.le_of_ble_eq_true rfl⟩ d_An_sealed_29 (Nat.le_of_ble_eq_true rfl) (fun r n2 M2 hp => ?_)
    obtain ⟨rfl, hq1, hq2⟩ := hp
    replace hq1 := hq1.symm
    replace hq2 := hq2.symm
    subst hq1 hq2
    refine fm_cnt (z' := (0, 0)) rfl (fm_st (st' := [.int (kI (sx_h sl hp k)), .int (kI (sx_m sl hp k))]) rfl ?_)
    refine fm_mmax hc q_445 q_446 q_19 q_max d_An_sealed_32 (Nat.le_of_ble_eq_true rfl) (Nat.le_of_ble_eq_true rfl) (Nat.le_of_ble_eq_true rfl) (Nat.le_of_ble_eq_true rfl) ?_
    refine fm_top (congrArg Value.int (sx_mx hb hk)) ?_
    refine fm_istore_n (lv' := [(2, .int (kI (sx_m sl hp (k + 1)))), (3, .int (nI k)), (0, .ref 8), (1, .int (nI a))]) hc d_An_sealed_35 rfl (by decide) rfl ?_
    refine fm_iinc (v := nI (k + 1)) (lv' := [(3, .int (nI (k + 1))), (2, .int (kI (sx_m sl hp (k + 1)))), (0, .ref 8), (1, .int (nI a))]) hc d_An_sealed_36 rfl (nI_1 k) (by decide) rfl ?_
    refine fm_goto (tgt := 13) hc d_An_sealed_39 rfl ?_
    refine fm_dropl (lv' := [(3, .int (nI (k + 1))), (2, .int (kI (sx_m sl hp (k + 1)))), (0, .ref 8), (1, .int (nI a))]) (by simp) ?_
    exact ih
  · have mb := sx_mb hb 4 (Nat.le_refl 4)
    obtain ⟨t, ht⟩ : ∃ t, t = sx_m sl hp 4 := ⟨_, rfl⟩
    by_cases g0 : sx_m sl hp 4 = 0
    · refine fm_iload_n hc d_An_sealed_13 rfl rfl ?_
      refine fm_iconst (v := nI 4) hc d_An_sealed_14 rfl ?_
      refine fm_icmp_ge (tgt := 42) hc d_An_sealed_15 rfl (fun _ => ?_) (fun gQ => absurd (by decide) gQ)
      refine fm_iload_n hc d_An_sealed_42 rfl rfl ?_
      refine fm_iconst (v := (-1)) hc d_An_sealed_43 rfl ?_
      refine fm_icmp_ne (tgt := 49) hc d_An_sealed_44 rfl (fun gQ => absurd (by rw [g0]; rfl) gQ) (fun _ => ?_)
      refine fm_iconst (v := (-1)) hc d_An_sealed_47 rfl ?_
      exact fm_iret hc hr d_An_sealed_48 (Nat.le_refl _) (Nat.le_refl _) ⟨by rw [show sx_A sl hp = -1 from if_pos g0], rfl, rfl⟩
    · refine fm_iload_n hc d_An_sealed_13 rfl rfl ?_
      refine fm_iconst (v := nI 4) hc d_An_sealed_14 rfl ?_
      refine fm_icmp_ge (tgt := 42) hc d_An_sealed_15 rfl (fun _ => ?_) (fun gQ => absurd (by decide) gQ)
      refine fm_iload_n hc d_An_sealed_42 rfl rfl ?_
      refine fm_iconst (v := (-1)) hc d_An_sealed_43 rfl ?_
      refine fm_icmp_ne (tgt := 49) hc d_An_sealed_44 rfl (fun _ => ?_) (fun gQ => absurd gQ (fun q => g0 (kI_eqI mb (by decide) (q.trans rfl))))
      refine fm_iconst (v := nI 0) hc d_An_sealed_49 rfl ?_
      refine fm_istore_n (lv' := [(3, .int (nI 0)), (2, .int (kI (sx_m sl hp 4))), (0, .ref 8), (1, .int (nI a))]) hc d_An_sealed_50 rfl (by decide) rfl ?_
      refine fm_iconst (v := nI 0) hc d_An_sealed_51 rfl ?_
      refine fm_istore (lv' := [(4, .int (nI 0)), (3, .int (nI 0)), (2, .int (kI (sx_m sl hp 4))), (0, .ref 8), (1, .int (nI a))]) hc d_An_sealed_52 (by decide) rfl ?_
      refine fm_iconst (v := nI 0) hc d_An_sealed_54 rfl ?_
      refine fm_istore (lv' := [(5, .int (nI 0)), (4, .int (nI 0)), (3, .int (nI 0)), (2, .int (kI (sx_m sl hp 4))), (0, .ref 8), (1, .int (nI a))]) hc d_An_sealed_55 (by decide) rfl ?_
      refine fm_dropl (lv' := [(5, .int (nI 0)), (4, .int (nI (sx_s sl hp (sx_m sl hp 4) 0))), (3, .int (nI (sx_l sl hp (sx_m sl hp 4) 0))), (2, .int (kI (sx_m sl hp 4))), (0, .ref 8), (1, .int (nI a))]) (by simp [sx_s, sx_l]) ?_
      refine fm_loop0 (N := 4) (lv := fun k => [(5, .int (nI k)), (4, .int (nI (sx_s sl hp (sx_m sl hp 4) k))), (3, .int (nI (sx_l sl hp (sx_m sl hp 4) k))), (2, .int (kI (sx_m sl hp 4))), (0, .ref 8), (1, .int (nI a))]) (fun k hk ih => ?_) ?_
      · have hb1 := sx_hb hb hk
        by_cases g1 : sx_h sl hp k = sx_m sl hp 4
        · have g4 : ¬ sl k = 0 := fun e => g0 (by rw [← g1]; exact if_pos e)
          by_cases g2 : sl k = 2
          · have e1 : sx_l sl hp (sx_m sl hp 4) (k + 1) = sx_l sl hp (sx_m sl hp 4) k + 1 := congrArg (sx_l sl hp (sx_m sl hp 4) k + ·) (if_pos ⟨g1, g2⟩)
            have e2 : sx_s sl hp (sx_m sl hp 4) (k + 1) = sx_s sl hp (sx_m sl hp 4) k + 0 := congrArg (sx_s sl hp (sx_m sl hp 4) k + ·) (if_neg (fun q => q.2.1 g2))
            rw [e1, e2] at ih
            refine fm_iload hc d_An_sealed_57 rfl ?_
            refine fm_iconst (v := nI 4) hc d_An_sealed_59 rfl ?_
            refine fm_icmp_ge (tgt := 131) hc d_An_sealed_60 rfl (fun gQ => absurd gQ (hnleB hk (by decide))) (fun _ => ?_)
            refine fm_aload_n hc d_An_sealed_63 rfl rfl ?_
            refine fm_getR (k := 2) (q := 15) hc K_An d_An_sealed_64 q_357 rfl (by decide) (by omega) (by decide) (by decide) (by decide) rfl (ap_2 hA) ?_
            refine fm_iload hc d_An_sealed_67 rfl ?_
            refine fm_aald (q := 90 + 124 * k) (j := k) (len := 4) hc 5 d_An_sealed_69 (by decide) (by omega) (by decide) (by decide) rfl (by omega) (by decide) (ap_site hA hk) ?_
            refine fm_getR (k := 4) (q := mf k) hc K_Si d_An_sealed_70 q_340 rfl (by omega) (by omega) (ly_Si hk) (by decide) (by decide) rfl (hm k hk) ?_
            refine fm_astore (lv' := [(6, .ref (mf k)), (5, .int (nI k)), (4, .int (nI (sx_s sl hp (sx_m sl hp 4) k))), (3, .int (nI (sx_l sl hp (sx_m sl hp 4) k))), (2, .int (kI (sx_m sl hp 4))), (0, .ref 8), (1, .int (nI a))]) hc d_An_sealed_73 (by decide) rfl ?_
            refine fm_aload hc d_An_sealed_75 rfl ?_
            refine fm_iload_n hc d_An_sealed_77 rfl rfl ?_
            refine fm_callV (av := [.int (nI a)]) (rest := []) (ob := mf k) (ci := 6) (r0 := ("AgentNet$Memory", F_Me, 6)) (y := y_Me_hopsOf) (bytes := b_Me_hopsOf) hc fm_T0_good (fm_EX_st b x) hex q_444 q_11 q_441 q_442 q_443 pd_Me_hopsOf (by have := mlo k hk; omega) (by have := mlo k hk; omega) (ly_M0 (hM k hk)) (by decide) rfl rfl (c_hopsK (k := k) (sl := sl) (hp := hp) hn (hM k hk) (hP k hk) ha (hs k hk) (hs4 k hk) (hh k hk) (hp9 k hk)) ⟨rfl, rfl, Nat.le_of_ble_eq_true rfl, Nat.le_of_ble_eq_true rfl⟩ ⟨Nat.le_of_ble_eq_true rfl, Nat.le_of_ble_eq_true rfl⟩ d_An_sealed_78 (Nat.le_of_ble_eq_true rfl) (fun r n2 M2 hp => ?_)
            obtain ⟨rfl, hq1, hq2⟩ := hp
            replace hq1 := hq1.symm
            replace hq2 := hq2.symm
            subst hq1 hq2
            refine fm_cnt (z' := (0, 0)) rfl (fm_st (st' := [.int (kI (sx_h sl hp k))]) rfl ?_)
            refine fm_iload_n hc d_An_sealed_81 rfl rfl ?_
            refine fm_icmp_ne (tgt := 125) hc d_An_sealed_82 rfl (fun gQ => absurd (congrArg kI g1) gQ) (fun _ => ?_)
            refine fm_iload_n hc d_An_sealed_85 rfl rfl ?_
            refine fm_aload hc d_An_sealed_86 rfl ?_
            refine fm_getR (k := 0) (q := mf k + 1) hc K_Me d_An_sealed_88 q_307 rfl (by have := mlo k hk; omega) (by have := mlo k hk; omega) (ly_M0 (hM k hk)) (by decide) (by decide) rfl (hP k hk).1 ?_
            refine fm_iload_n hc d_An_sealed_91 rfl rfl ?_
            refine fm_iald (j := a) (len := 8) hc 0 d_An_sealed_92 (by have := mlo k hk; omega) (by have := mlo k hk; omega) (ly_M (hM k hk) (k := 1) (by omega)) rfl (by omega) (by decide) ?_
            refine fm_top (congrArg Value.int (show M.1 (mf k + 1) a = nI (sl k) from (hs k hk))) ?_
            refine fm_iconst (v := nI 2) hc d_An_sealed_93 rfl ?_
            refine fm_icmp_ne (tgt := 101) hc d_An_sealed_94 rfl (fun gQ => absurd (congrArg nI g2) gQ) (fun _ => ?_)
            refine fm_iconst (v := nI 1) hc d_An_sealed_97 rfl ?_
            refine fm_goto (tgt := 102) hc d_An_sealed_98 rfl ?_
            refine fm_iadd hc d_An_sealed_102 ?_
            refine fm_top (congrArg Value.int (nI_add (sx_l sl hp (sx_m sl hp 4) k) 1)) ?_
            refine fm_istore_n (lv' := [(3, .int (nI ((sx_l sl hp (sx_m sl hp 4) k) + 1))), (6, .ref (mf k)), (5, .int (nI k)), (4, .int (nI (sx_s sl hp (sx_m sl hp 4) k))), (2, .int (kI (sx_m sl hp 4))), (0, .ref 8), (1, .int (nI a))]) hc d_An_sealed_103 rfl (by decide) rfl ?_
            refine fm_iload hc d_An_sealed_104 rfl ?_
            refine fm_aload hc d_An_sealed_106 rfl ?_
            refine fm_getR (k := 0) (q := mf k + 1) hc K_Me d_An_sealed_108 q_307 rfl (by have := mlo k hk; omega) (by have := mlo k hk; omega) (ly_M0 (hM k hk)) (by decide) (by decide) rfl (hP k hk).1 ?_
            refine fm_iload_n hc d_An_sealed_111 rfl rfl ?_
            refine fm_iald (j := a) (len := 8) hc 0 d_An_sealed_112 (by have := mlo k hk; omega) (by have := mlo k hk; omega) (ly_M (hM k hk) (k := 1) (by omega)) rfl (by omega) (by decide) ?_
            refine fm_top (congrArg Value.int (show M.1 (mf k + 1) a = nI (sl k) from (hs k hk))) ?_
            refine fm_iconst (v := nI 2) hc d_An_sealed_113 rfl ?_
            refine fm_icmp_ne (tgt := 121) hc d_An_sealed_114 rfl (fun gQ => absurd (congrArg nI g2) gQ) (fun _ => ?_)
            refine fm_iconst (v := nI 0) hc d_An_sealed_117 rfl ?_
            refine fm_goto (tgt := 122) hc d_An_sealed_118 rfl ?_
            refine fm_iadd hc d_An_sealed_122 ?_
            refine fm_top (congrArg Value.int (nI_add (sx_s sl hp (sx_m sl hp 4) k) 0)) ?_
            refine fm_istore (lv' := [(4, .int (nI ((sx_s sl hp (sx_m sl hp 4) k) + 0))), (3, .int (nI ((sx_l sl hp (sx_m sl hp 4) k) + 1))), (6, .ref (mf k)), (5, .int (nI k)), (2, .int (kI (sx_m sl hp 4))), (0, .ref 8), (1, .int (nI a))]) hc d_An_sealed_123 (by decide) rfl ?_
            refine fm_iinc (v := nI (k + 1)) (lv' := [(5, .int (nI (k + 1))), (4, .int (nI ((sx_s sl hp (sx_m sl hp 4) k) + 0))), (3, .int (nI ((sx_l sl hp (sx_m sl hp 4) k) + 1))), (6, .ref (mf k)), (2, .int (kI (sx_m sl hp 4))), (0, .ref 8), (1, .int (nI a))]) hc d_An_sealed_125 rfl (nI_1 k) (by decide) rfl ?_
            refine fm_goto (tgt := 57) hc d_An_sealed_128 rfl ?_
            refine fm_dropl (lv' := [(5, .int (nI (k + 1))), (4, .int (nI (sx_s sl hp (sx_m sl hp 4) k + 0))), (3, .int (nI (sx_l sl hp (sx_m sl hp 4) k + 1))), (2, .int (kI (sx_m sl hp 4))), (0, .ref 8), (1, .int (nI a))]) (by simp) ?_
            exact ih
          · have e1 : sx_l sl hp (sx_m sl hp 4) (k + 1) = sx_l sl hp (sx_m sl hp 4) k + 0 := congrArg (sx_l sl hp (sx_m sl hp 4) k + ·) (if_neg (fun q => g2 q.2))
            have e2 : sx_s sl hp (sx_m sl hp 4) (k + 1) = sx_s sl hp (sx_m sl hp 4) k + 1 := congrArg (sx_s sl hp (sx_m sl hp 4) k + ·) (if_pos ⟨g1, g2, g4⟩)
            rw [e1, e2] at ih
            refine fm_iload hc d_An_sealed_57 rfl ?_
            refine fm_iconst (v := nI 4) hc d_An_sealed_59 rfl ?_
            refine fm_icmp_ge (tgt := 131) hc d_An_sealed_60 rfl (fun gQ => absurd gQ (hnleB hk (by decide))) (fun _ => ?_)
            refine fm_aload_n hc d_An_sealed_63 rfl rfl ?_
            refine fm_getR (k := 2) (q := 15) hc K_An d_An_sealed_64 q_357 rfl (by decide) (by omega) (by decide) (by decide) (by decide) rfl (ap_2 hA) ?_
            refine fm_iload hc d_An_sealed_67 rfl ?_
            refine fm_aald (q := 90 + 124 * k) (j := k) (len := 4) hc 5 d_An_sealed_69 (by decide) (by omega) (by decide) (by decide) rfl (by omega) (by decide) (ap_site hA hk) ?_
            refine fm_getR (k := 4) (q := mf k) hc K_Si d_An_sealed_70 q_340 rfl (by omega) (by omega) (ly_Si hk) (by decide) (by decide) rfl (hm k hk) ?_
            refine fm_astore (lv' := [(6, .ref (mf k)), (5, .int (nI k)), (4, .int (nI (sx_s sl hp (sx_m sl hp 4) k))), (3, .int (nI (sx_l sl hp (sx_m sl hp 4) k))), (2, .int (kI (sx_m sl hp 4))), (0, .ref 8), (1, .int (nI a))]) hc d_An_sealed_73 (by decide) rfl ?_
            refine fm_aload hc d_An_sealed_75 rfl ?_
            refine fm_iload_n hc d_An_sealed_77 rfl rfl ?_
            refine fm_callV (av := [.int (nI a)]) (rest := []) (ob := mf k) (ci := 6) (r0 := ("AgentNet$Memory", F_Me, 6)) (y := y_Me_hopsOf) (bytes := b_Me_hopsOf) hc fm_T0_good (fm_EX_st b x) hex q_444 q_11 q_441 q_442 q_443 pd_Me_hopsOf (by have := mlo k hk; omega) (by have := mlo k hk; omega) (ly_M0 (hM k hk)) (by decide) rfl rfl (c_hopsK (k := k) (sl := sl) (hp := hp) hn (hM k hk) (hP k hk) ha (hs k hk) (hs4 k hk) (hh k hk) (hp9 k hk)) ⟨rfl, rfl, Nat.le_of_ble_eq_true rfl, Nat.le_of_ble_eq_true rfl⟩ ⟨Nat.le_of_ble_eq_true rfl, Nat.le_of_ble_eq_true rfl⟩ d_An_sealed_78 (Nat.le_of_ble_eq_true rfl) (fun r n2 M2 hp => ?_)
            obtain ⟨rfl, hq1, hq2⟩ := hp
            replace hq1 := hq1.symm
            replace hq2 := hq2.symm
            subst hq1 hq2
            refine fm_cnt (z' := (0, 0)) rfl (fm_st (st' := [.int (kI (sx_h sl hp k))]) rfl ?_)
            refine fm_iload_n hc d_An_sealed_81 rfl rfl ?_
            refine fm_icmp_ne (tgt := 125) hc d_An_sealed_82 rfl (fun gQ => absurd (congrArg kI g1) gQ) (fun _ => ?_)
            refine fm_iload_n hc d_An_sealed_85 rfl rfl ?_
            refine fm_aload hc d_An_sealed_86 rfl ?_
            refine fm_getR (k := 0) (q := mf k + 1) hc K_Me d_An_sealed_88 q_307 rfl (by have := mlo k hk; omega) (by have := mlo k hk; omega) (ly_M0 (hM k hk)) (by decide) (by decide) rfl (hP k hk).1 ?_
            refine fm_iload_n hc d_An_sealed_91 rfl rfl ?_
            refine fm_iald (j := a) (len := 8) hc 0 d_An_sealed_92 (by have := mlo k hk; omega) (by have := mlo k hk; omega) (ly_M (hM k hk) (k := 1) (by omega)) rfl (by omega) (by decide) ?_
            refine fm_top (congrArg Value.int (show M.1 (mf k + 1) a = nI (sl k) from (hs k hk))) ?_
            refine fm_iconst (v := nI 2) hc d_An_sealed_93 rfl ?_
            refine fm_icmp_ne (tgt := 101) hc d_An_sealed_94 rfl (fun _ => ?_) (fun gQ => absurd gQ (fun q => g2 (nI_inj (by have := hs4 k hk; omega) (by decide) q)))
            refine fm_iconst (v := nI 0) hc d_An_sealed_101 rfl ?_
            refine fm_iadd hc d_An_sealed_102 ?_
            refine fm_top (congrArg Value.int (nI_add (sx_l sl hp (sx_m sl hp 4) k) 0)) ?_
            refine fm_istore_n (lv' := [(3, .int (nI ((sx_l sl hp (sx_m sl hp 4) k) + 0))), (6, .ref (mf k)), (5, .int (nI k)), (4, .int (nI (sx_s sl hp (sx_m sl hp 4) k))), (2, .int (kI (sx_m sl hp 4))), (0, .ref 8), (1, .int (nI a))]) hc d_An_sealed_103 rfl (by decide) rfl ?_
            refine fm_iload hc d_An_sealed_104 rfl ?_
            refine fm_aload hc d_An_sealed_106 rfl ?_
            refine fm_getR (k := 0) (q := mf k + 1) hc K_Me d_An_sealed_108 q_307 rfl (by have := mlo k hk; omega) (by have := mlo k hk; omega) (ly_M0 (hM k hk)) (by decide) (by decide) rfl (hP k hk).1 ?_
            refine fm_iload_n hc d_An_sealed_111 rfl rfl ?_
            refine fm_iald (j := a) (len := 8) hc 0 d_An_sealed_112 (by have := mlo k hk; omega) (by have := mlo k hk; omega) (ly_M (hM k hk) (k := 1) (by omega)) rfl (by omega) (by decide) ?_
            refine fm_top (congrArg Value.int (show M.1 (mf k + 1) a = nI (sl k) from (hs k hk))) ?_
            refine fm_iconst (v := nI 2) hc d_An_sealed_113 rfl ?_
            refine fm_icmp_ne (tgt := 121) hc d_An_sealed_114 rfl (fun _ => ?_) (fun gQ => absurd gQ (fun q => g2 (nI_inj (by have := hs4 k hk; omega) (by decide) q)))
            refine fm_iconst (v := nI 1) hc d_An_sealed_121 rfl ?_
            refine fm_iadd hc d_An_sealed_122 ?_
            refine fm_top (congrArg Value.int (nI_add (sx_s sl hp (sx_m sl hp 4) k) 1)) ?_
            refine fm_istore (lv' := [(4, .int (nI ((sx_s sl hp (sx_m sl hp 4) k) + 1))), (3, .int (nI ((sx_l sl hp (sx_m sl hp 4) k) + 0))), (6, .ref (mf k)), (5, .int (nI k)), (2, .int (kI (sx_m sl hp 4))), (0, .ref 8), (1, .int (nI a))]) hc d_An_sealed_123 (by decide) rfl ?_
            refine fm_iinc (v := nI (k + 1)) (lv' := [(5, .int (nI (k + 1))), (4, .int (nI ((sx_s sl hp (sx_m sl hp 4) k) + 1))), (3, .int (nI ((sx_l sl hp (sx_m sl hp 4) k) + 0))), (6, .ref (mf k)), (2, .int (kI (sx_m sl hp 4))), (0, .ref 8), (1, .int (nI a))]) hc d_An_sealed_125 rfl (nI_1 k) (by decide) rfl ?_
            refine fm_goto (tgt := 57) hc d_An_sealed_128 rfl ?_
            refine fm_dropl (lv' := [(5, .int (nI (k + 1))), (4, .int (nI (sx_s sl hp (sx_m sl hp 4) k + 1))), (3, .int (nI (sx_l sl hp (sx_m sl hp 4) k + 0))), (2, .int (kI (sx_m sl hp 4))), (0, .ref 8), (1, .int (nI a))]) (by simp) ?_
            exact ih
        · have e1 : sx_l sl hp (sx_m sl hp 4) (k + 1) = sx_l sl hp (sx_m sl hp 4) k + 0 := congrArg (sx_l sl hp (sx_m sl hp 4) k + ·) (if_neg (fun q => g1 q.1))
          have e2 : sx_s sl hp (sx_m sl hp 4) (k + 1) = sx_s sl hp (sx_m sl hp 4) k + 0 := congrArg (sx_s sl hp (sx_m sl hp 4) k + ·) (if_neg (fun q => g1 q.1))
          rw [e1, e2] at ih
          refine fm_iload hc d_An_sealed_57 rfl ?_
          refine fm_iconst (v := nI 4) hc d_An_sealed_59 rfl ?_
          refine fm_icmp_ge (tgt := 131) hc d_An_sealed_60 rfl (fun gQ => absurd gQ (hnleB hk (by decide))) (fun _ => ?_)
          refine fm_aload_n hc d_An_sealed_63 rfl rfl ?_
          refine fm_getR (k := 2) (q := 15) hc K_An d_An_sealed_64 q_357 rfl (by decide) (by omega) (by decide) (by decide) (by decide) rfl (ap_2 hA) ?_
          refine fm_iload hc d_An_sealed_67 rfl ?_
          refine fm_aald (q := 90 + 124 * k) (j := k) (len := 4) hc 5 d_An_sealed_69 (by decide) (by omega) (by decide) (by decide) rfl (by omega) (by decide) (ap_site hA hk) ?_
          refine fm_getR (k := 4) (q := mf k) hc K_Si d_An_sealed_70 q_340 rfl (by omega) (by omega) (ly_Si hk) (by decide) (by decide) rfl (hm k hk) ?_
          refine fm_astore (lv' := [(6, .ref (mf k)), (5, .int (nI k)), (4, .int (nI (sx_s sl hp (sx_m sl hp 4) k))), (3, .int (nI (sx_l sl hp (sx_m sl hp 4) k))), (2, .int (kI (sx_m sl hp 4))), (0, .ref 8), (1, .int (nI a))]) hc d_An_sealed_73 (by decide) rfl ?_
          refine fm_aload hc d_An_sealed_75 rfl ?_
          refine fm_iload_n hc d_An_sealed_77 rfl rfl ?_
          refine fm_callV (av := [.int (nI a)]) (rest := []) (ob := mf k) (ci := 6) (r0 := ("AgentNet$Memory", F_Me, 6)) (y := y_Me_hopsOf) (bytes := b_Me_hopsOf) hc fm_T0_good (fm_EX_st b x) hex q_444 q_11 q_441 q_442 q_443 pd_Me_hopsOf (by have := mlo k hk; omega) (by have := mlo k hk; omega) (ly_M0 (hM k hk)) (by decide) rfl rfl (c_hopsK (k := k) (sl := sl) (hp := hp) hn (hM k hk) (hP k hk) ha (hs k hk) (hs4 k hk) (hh k hk) (hp9 k hk)) ⟨rfl, rfl, Nat.le_of_ble_eq_true rfl, Nat.le_of_ble_eq_true rfl⟩ ⟨Nat.le_of_ble_eq_true rfl, Nat.le_of_ble_eq_true rfl⟩ d_An_sealed_78 (Nat.le_of_ble_eq_true rfl) (fun r n2 M2 hp => ?_)
          obtain ⟨rfl, hq1, hq2⟩ := hp
          replace hq1 := hq1.symm
          replace hq2 := hq2.symm
          subst hq1 hq2
          refine fm_cnt (z' := (0, 0)) rfl (fm_st (st' := [.int (kI (sx_h sl hp k))]) rfl ?_)
          refine fm_iload_n hc d_An_sealed_81 rfl rfl ?_
          refine fm_icmp_ne (tgt := 125) hc d_An_sealed_82 rfl (fun _ => ?_) (fun gQ => absurd gQ (fun q => g1 (kI_eqI hb1 mb q)))
          refine fm_iinc (v := nI (k + 1)) (lv' := [(5, .int (nI (k + 1))), (6, .ref (mf k)), (4, .int (nI (sx_s sl hp (sx_m sl hp 4) k))), (3, .int (nI (sx_l sl hp (sx_m sl hp 4) k))), (2, .int (kI (sx_m sl hp 4))), (0, .ref 8), (1, .int (nI a))]) hc d_An_sealed_125 rfl (nI_1 k) (by decide) rfl ?_
          refine fm_goto (tgt := 57) hc d_An_sealed_128 rfl ?_
          refine fm_dropl (lv' := [(5, .int (nI (k + 1))), (4, .int (nI (sx_s sl hp (sx_m sl hp 4) k + 0))), (3, .int (nI (sx_l sl hp (sx_m sl hp 4) k + 0))), (2, .int (kI (sx_m sl hp 4))), (0, .ref 8), (1, .int (nI a))]) (by simp) ?_
          exact ih
      · have cb := sx_lb (sl := sl) (hp := hp) (t := sx_m sl hp 4) 4
        by_cases g3 : 0 < sx_s sl hp (sx_m sl hp 4) 4
        · refine fm_iload hc d_An_sealed_57 rfl ?_
          refine fm_iconst (v := nI 4) hc d_An_sealed_59 rfl ?_
          refine fm_icmp_ge (tgt := 131) hc d_An_sealed_60 rfl (fun _ => ?_) (fun gQ => absurd (by decide) gQ)
          refine fm_bipush (v := nI 100) hc d_An_sealed_131 rfl ?_
          refine fm_iload_n hc d_An_sealed_133 rfl rfl ?_
          refine fm_top (congrArg Value.int (show kI (sx_m sl hp 4) = nI (sx_m sl hp 4 - 1) from (kI_pos g0))) ?_
          refine fm_imul hc d_An_sealed_134 ?_
          refine fm_top (congrArg Value.int (pk_mul 100 (sx_m sl hp 4 - 1))) ?_
          refine fm_iload hc d_An_sealed_135 rfl ?_
          refine fm_if_le (tgt := 145) hc d_An_sealed_137 rfl (fun gQ => absurd gQ (hnleB (c := 0) g3 (by omega))) (fun _ => ?_)
          refine fm_iload hc d_An_sealed_140 rfl ?_
          refine fm_goto (tgt := 146) hc d_An_sealed_142 rfl ?_
          refine fm_iadd hc d_An_sealed_146 ?_
          refine fm_top (congrArg Value.int (nI_add (100 * (sx_m sl hp 4 - 1)) (sx_s sl hp (sx_m sl hp 4) 4))) ?_
          exact fm_iret hc hr d_An_sealed_147 (Nat.le_refl _) (Nat.le_refl _) ⟨by rw [show sx_A sl hp = nI (100 * (sx_m sl hp 4 - 1) + (if 0 < sx_s sl hp (sx_m sl hp 4) 4 then sx_s sl hp (sx_m sl hp 4) 4 else sx_l sl hp (sx_m sl hp 4) 4)) from if_neg g0, if_pos g3], rfl, rfl⟩
        · refine fm_iload hc d_An_sealed_57 rfl ?_
          refine fm_iconst (v := nI 4) hc d_An_sealed_59 rfl ?_
          refine fm_icmp_ge (tgt := 131) hc d_An_sealed_60 rfl (fun _ => ?_) (fun gQ => absurd (by decide) gQ)
          refine fm_bipush (v := nI 100) hc d_An_sealed_131 rfl ?_
          refine fm_iload_n hc d_An_sealed_133 rfl rfl ?_
          refine fm_top (congrArg Value.int (show kI (sx_m sl hp 4) = nI (sx_m sl hp 4 - 1) from (kI_pos g0))) ?_
          refine fm_imul hc d_An_sealed_134 ?_
          refine fm_top (congrArg Value.int (pk_mul 100 (sx_m sl hp 4 - 1))) ?_
          refine fm_iload hc d_An_sealed_135 rfl ?_
          refine fm_if_le (tgt := 145) hc d_An_sealed_137 rfl (fun _ => ?_) (fun gQ => absurd (by rw [show sx_s sl hp (sx_m sl hp 4) 4 = 0 by omega]; decide) gQ)
          refine fm_iload_n hc d_An_sealed_145 rfl rfl ?_
          refine fm_iadd hc d_An_sealed_146 ?_
          refine fm_top (congrArg Value.int (nI_add (100 * (sx_m sl hp 4 - 1)) (sx_l sl hp (sx_m sl hp 4) 4))) ?_
          exact fm_iret hc hr d_An_sealed_147 (Nat.le_refl _) (Nat.le_refl _) ⟨by rw [show sx_A sl hp = nI (100 * (sx_m sl hp 4 - 1) + (if 0 < sx_s sl hp (sx_m sl hp 4) 4 then sx_s sl hp (sx_m sl hp 4) 4 else sx_l sl hp (sx_m sl hp 4) 4)) from if_neg g0, if_neg g3], rfl, rfl⟩
theorem r_sealed_ok {l : Launch} {b : Nat} {x : Nat → Nat} {D : va_G} {dA : Nat → ClassId} {a n : Nat} {sl hp : Nat → Nat} {M : fm_M} (hn : 629 ≤ n) (hR : fm_RP M) (ha : a < 8) (hs : ∀ k, k < 4 → M.1 597 (24 * k + 16 + a) = nI (sl k)) (hs4 : ∀ k, k < 4 → sl k ≤ 4) (hh : ∀ k, k < 4 → sl k ≠ 0 → M.1 608 (24 * k + 16 + a) = nI (hp k)) (hp9 : ∀ k, k < 4 → sl k ≠ 0 → hp k ≤ 900) : Met l y_Mo_sealed (Cond.code y_Mo_sealed b_Mo_sealed 8 (some .int) :: fm_T0) ({ frames := 1, cells := 0, slots := 0, locals := 30 }) (fm_Pc fm_lay fm_nf fm_fk fm_cl b x D dA (fm_tys dA) (fm_EX b x) false [.ref 586, .int (nI a)] n M) (fm_Qc fm_lay fm_nf fm_fk fm_cl b x D dA (fun r n' M' => r = some (.int (sx_A sl hp)) ∧ n' = n ∧ M' = fm_put1 M 586 0 (nI 0))) 0 0 (fm_A b) := by
  refine fm_enter (by decide) (Nat.le_of_ble_eq_true rfl) ?_
  intro p e s m args below meth c9 hc hr hnm hex htg
  have hb : ∀ k, k < 4 → sl k ≠ 0 → hp k ≤ 1000 := fun k hk e => by have := hp9 k hk e; omega
  have o1 : ∀ q i, q ≠ 586 → (fm_put1 M 586 0 (nI 0)).1 q i = M.1 q i := fun q i e => p1_other e
  refine fm_aload_n hc d_Mo_sealed_0 rfl rfl ?_
  refine fm_iconst (v := nI 0) hc d_Mo_sealed_1 rfl ?_
  refine fm_putI (k := 0) (v := nI 0) hc K_Mo d_Mo_sealed_2 q_885 rfl (by decide) (by omega) (by decide) (by decide) (by decide) rfl rfl rfl rfl ?_
  refine fm_mem (M' := fm_put1 M 586 0 (nI 0)) rfl rfl ?_
  refine fm_iload_n hc d_Mo_sealed_5 rfl rfl ?_
  refine fm_iconst (v := nI 0) hc d_Mo_sealed_6 rfl ?_
  refine fm_bipush (v := nI 7) hc d_Mo_sealed_7 rfl ?_
  refine fm_callS (av := [.int (nI a), .int (nI 0), .int (nI 7)]) (rest := []) (y := y_Mo_within) (bytes := b_Mo_within) hc fm_T0_good (fm_EX_st b x) hex q_1049 q_13 q_1047 q_1048 pd_Mo_within (c_Mo_within_ok (wi_of8 (in8_of ha))) ⟨rfl, rfl, Nat.le_of_ble_eq_true rfl, Nat.le_of_ble_eq_true rfl⟩ ⟨Nat.le_of_ble_eq_true rfl, Nat.le_of_ble_eq_true rfl⟩ d_Mo_sealed_9 (Nat.le_of_ble_eq_true rfl) (fun r n2 M2 hp => ?_)
  obtain ⟨rfl, hq1, hq2⟩ := hp
  replace hq1 := hq1.symm
  replace hq2 := hq2.symm
  subst hq1 hq2
  refine fm_cnt (z' := (0, 0)) rfl (fm_st (st' := [.int (nI 1)]) rfl ?_)
  refine fm_if_ne (tgt := 17) hc d_Mo_sealed_12 rfl (fun _ => ?_) (fun gQ => absurd gQ (by decide))
  refine fm_iconst (v := (-1)) hc d_Mo_sealed_17 rfl ?_
  refine fm_istore_n (lv' := [(2, .int ((-1))), (0, .ref 586), (1, .int (nI a))]) hc d_Mo_sealed_18 rfl (by decide) rfl ?_
  refine fm_iconst (v := nI 0) hc d_Mo_sealed_19 rfl ?_
  refine fm_istore_n (lv' := [(3, .int (nI 0)), (2, .int ((-1))), (0, .ref 586), (1, .int (nI a))]) hc d_Mo_sealed_20 rfl (by decide) rfl ?_
  refine fm_dropl (lv' := [(3, .int (nI 0)), (2, .int (kI (sx_m sl hp 0))), (0, .ref 586), (1, .int (nI a))]) (by simp [sx_m, kI]) ?_
  refine fm_loop0 (N := 4) (lv := fun k => [(3, .int (nI k)), (2, .int (kI (sx_m sl hp k))), (0, .ref 586), (1, .int (nI a))]) (fun k hk ih => ?_) ?_
  · have hs4k := hs4 k hk
    have hmb := sx_mb hb k (by omega)
    by_cases g0 : sl k = 0
    · have e1 : sx_m sl hp (k + 1) = sx_m sl hp k := if_neg (by rw [show sx_h sl hp k = 0 from if_pos g0]; omega)
      rw [e1] at ih
      refine fm_iload_n hc d_Mo_sealed_21 rfl rfl ?_
      refine fm_iconst (v := nI 4) hc d_Mo_sealed_22 rfl ?_
      refine fm_icmp_ge (tgt := 76) hc d_Mo_sealed_23 rfl (fun gQ => absurd gQ (hnleB hk (by decide))) (fun _ => ?_)
      refine fm_bipush (v := nI 24) hc d_Mo_sealed_26 rfl ?_
      refine fm_iload_n hc d_Mo_sealed_28 rfl rfl ?_
      refine fm_imul hc d_Mo_sealed_29 ?_
      refine fm_top (congrArg Value.int (pk_mul 24 k)) ?_
      refine fm_bipush (v := nI 16) hc d_Mo_sealed_30 rfl ?_
      refine fm_iadd hc d_Mo_sealed_32 ?_
      refine fm_top (congrArg Value.int (nI_add (24 * k) 16)) ?_
      refine fm_iload_n hc d_Mo_sealed_33 rfl rfl ?_
      refine fm_iadd hc d_Mo_sealed_34 ?_
      refine fm_top (congrArg Value.int (nI_add ((24 * k) + 16) a)) ?_
      refine fm_istore (lv' := [(4, .int (nI (((24 * k) + 16) + a))), (3, .int (nI k)), (2, .int (kI (sx_m sl hp k))), (0, .ref 586), (1, .int (nI a))]) hc d_Mo_sealed_35 (by decide) rfl ?_
      refine fm_aload_n hc d_Mo_sealed_37 rfl rfl ?_
      refine fm_getR (k := 12) (q := 597) hc K_Mo d_Mo_sealed_38 q_897 rfl (by decide) (by omega) (by decide) (by decide) (by decide) rfl (rp_slot hR) ?_
      refine fm_iload hc d_Mo_sealed_41 rfl ?_
      refine fm_iald (j := ((24 * k) + 16) + a) (len := 96) hc 0 d_Mo_sealed_43 (by decide) (by omega) (by decide) rfl (by omega) (by decide) ?_
      refine fm_top (congrArg Value.int (show (fm_put1 M 586 0 (nI 0)).1 597 (((24 * k) + 16) + a) = nI (sl k) from ((o1 _ _ (by decide)).trans (hs k hk)))) ?_
      refine fm_if_le (tgt := 68) hc d_Mo_sealed_44 rfl (fun _ => ?_) (fun gQ => absurd (by rw [g0]; decide) gQ)
      refine fm_iload_n hc d_Mo_sealed_68 rfl rfl ?_
      refine fm_istore_n (lv' := [(2, .int (kI (sx_m sl hp k))), (4, .int (nI (((24 * k) + 16) + a))), (3, .int (nI k)), (0, .ref 586), (1, .int (nI a))]) hc d_Mo_sealed_69 rfl (by decide) rfl ?_
      refine fm_iinc (v := nI (k + 1)) (lv' := [(3, .int (nI (k + 1))), (2, .int (kI (sx_m sl hp k))), (4, .int (nI (((24 * k) + 16) + a))), (0, .ref 586), (1, .int (nI a))]) hc d_Mo_sealed_70 rfl (nI_1 k) (by decide) rfl ?_
      refine fm_goto (tgt := 21) hc d_Mo_sealed_73 rfl ?_
      refine fm_dropl (lv' := [(3, .int (nI (k + 1))), (2, .int (kI (sx_m sl hp k))), (0, .ref 586), (1, .int (nI a))]) (by simp) ?_
      exact ih
    · have hpk := hp9 k hk g0
      have eh : sx_h sl hp k = hp k + 1 := if_neg g0
      by_cases g1 : sx_m sl hp k < sx_h sl hp k
      · have e1 : sx_m sl hp (k + 1) = hp k + 1 := (if_pos g1).trans eh
        rw [e1] at ih
        refine fm_iload_n hc d_Mo_sealed_21 rfl rfl ?_
        refine fm_iconst (v := nI 4) hc d_Mo_sealed_22 rfl ?_
        refine fm_icmp_ge (tgt := 76) hc d_Mo_sealed_23 rfl (fun gQ => absurd gQ (hnleB hk (by decide))) (fun _ => ?_)
        refine fm_bipush (v := nI 24) hc d_Mo_sealed_26 rfl ?_
        refine fm_iload_n hc d_Mo_sealed_28 rfl rfl ?_
        refine fm_imul hc d_Mo_sealed_29 ?_
        refine fm_top (congrArg Value.int (pk_mul 24 k)) ?_
        refine fm_bipush (v := nI 16) hc d_Mo_sealed_30 rfl ?_
        refine fm_iadd hc d_Mo_sealed_32 ?_
        refine fm_top (congrArg Value.int (nI_add (24 * k) 16)) ?_
        refine fm_iload_n hc d_Mo_sealed_33 rfl rfl ?_
        refine fm_iadd hc d_Mo_sealed_34 ?_
        refine fm_top (congrArg Value.int (nI_add ((24 * k) + 16) a)) ?_
        refine fm_istore (lv' := [(4, .int (nI (((24 * k) + 16) + a))), (3, .int (nI k)), (2, .int (kI (sx_m sl hp k))), (0, .ref 586), (1, .int (nI a))]) hc d_Mo_sealed_35 (by decide) rfl ?_
        refine fm_aload_n hc d_Mo_sealed_37 rfl rfl ?_
        refine fm_getR (k := 12) (q := 597) hc K_Mo d_Mo_sealed_38 q_897 rfl (by decide) (by omega) (by decide) (by decide) (by decide) rfl (rp_slot hR) ?_
        refine fm_iload hc d_Mo_sealed_41 rfl ?_
        refine fm_iald (j := ((24 * k) + 16) + a) (len := 96) hc 0 d_Mo_sealed_43 (by decide) (by omega) (by decide) rfl (by omega) (by decide) ?_
        refine fm_top (congrArg Value.int (show (fm_put1 M 586 0 (nI 0)).1 597 (((24 * k) + 16) + a) = nI (sl k) from ((o1 _ _ (by decide)).trans (hs k hk)))) ?_
        refine fm_if_le (tgt := 68) hc d_Mo_sealed_44 rfl (fun gQ => absurd gQ (hnleB (a := sl k) (c := 0) (by omega) (by omega))) (fun _ => ?_)
        refine fm_aload_n hc d_Mo_sealed_47 rfl rfl ?_
        refine fm_getR (k := 23) (q := 608) hc K_Mo d_Mo_sealed_48 q_908 rfl (by decide) (by omega) (by decide) (by decide) (by decide) rfl (rp_hops hR) ?_
        refine fm_iload hc d_Mo_sealed_51 rfl ?_
        refine fm_iald (j := ((24 * k) + 16) + a) (len := 98) hc 0 d_Mo_sealed_53 (by decide) (by omega) (by decide) rfl (by omega) (by decide) ?_
        refine fm_top (congrArg Value.int (show (fm_put1 M 586 0 (nI 0)).1 608 (((24 * k) + 16) + a) = nI (hp k) from ((o1 _ _ (by decide)).trans (hh k hk g0)))) ?_
        refine fm_iload_n hc d_Mo_sealed_54 rfl rfl ?_
        refine fm_icmp_le (tgt := 68) hc d_Mo_sealed_55 rfl (fun gQ => absurd gQ (fun q => absurd ((kI_ltI (c := hp k + 1) hmb (by omega)).mpr (by omega)) (Int32.not_lt.mpr q))) (fun _ => ?_)
        refine fm_aload_n hc d_Mo_sealed_58 rfl rfl ?_
        refine fm_getR (k := 23) (q := 608) hc K_Mo d_Mo_sealed_59 q_908 rfl (by decide) (by omega) (by decide) (by decide) (by decide) rfl (rp_hops hR) ?_
        refine fm_iload hc d_Mo_sealed_62 rfl ?_
        refine fm_iald (j := ((24 * k) + 16) + a) (len := 98) hc 0 d_Mo_sealed_64 (by decide) (by omega) (by decide) rfl (by omega) (by decide) ?_
        refine fm_top (congrArg Value.int (show (fm_put1 M 586 0 (nI 0)).1 608 (((24 * k) + 16) + a) = nI (hp k) from ((o1 _ _ (by decide)).trans (hh k hk g0)))) ?_
        refine fm_goto (tgt := 69) hc d_Mo_sealed_65 rfl ?_
        refine fm_istore_n (lv' := [(2, .int (nI (hp k))), (4, .int (nI (((24 * k) + 16) + a))), (3, .int (nI k)), (0, .ref 586), (1, .int (nI a))]) hc d_Mo_sealed_69 rfl (by decide) rfl ?_
        refine fm_iinc (v := nI (k + 1)) (lv' := [(3, .int (nI (k + 1))), (2, .int (nI (hp k))), (4, .int (nI (((24 * k) + 16) + a))), (0, .ref 586), (1, .int (nI a))]) hc d_Mo_sealed_70 rfl (nI_1 k) (by decide) rfl ?_
        refine fm_goto (tgt := 21) hc d_Mo_sealed_73 rfl ?_
        refine fm_dropl (lv' := [(3, .int (nI (k + 1))), (2, .int (nI (hp k))), (0, .ref 586), (1, .int (nI a))]) (by simp) ?_
        exact ih
      · have e1 : sx_m sl hp (k + 1) = sx_m sl hp k := if_neg g1
        rw [e1] at ih
        refine fm_iload_n hc d_Mo_sealed_21 rfl rfl ?_
        refine fm_iconst (v := nI 4) hc d_Mo_sealed_22 rfl ?_
        refine fm_icmp_ge (tgt := 76) hc d_Mo_sealed_23 rfl (fun gQ => absurd gQ (hnleB hk (by decide))) (fun _ => ?_)
        refine fm_bipush (v := nI 24) hc d_Mo_sealed_26 rfl ?_
        refine fm_iload_n hc d_Mo_sealed_28 rfl rfl ?_
        refine fm_imul hc d_Mo_sealed_29 ?_
        refine fm_top (congrArg Value.int (pk_mul 24 k)) ?_
        refine fm_bipush (v := nI 16) hc d_Mo_sealed_30 rfl ?_
        refine fm_iadd hc d_Mo_sealed_32 ?_
        refine fm_top (congrArg Value.int (nI_add (24 * k) 16)) ?_
        refine fm_iload_n hc d_Mo_sealed_33 rfl rfl ?_
        refine fm_iadd hc d_Mo_sealed_34 ?_
        refine fm_top (congrArg Value.int (nI_add ((24 * k) + 16) a)) ?_
        refine fm_istore (lv' := [(4, .int (nI (((24 * k) + 16) + a))), (3, .int (nI k)), (2, .int (kI (sx_m sl hp k))), (0, .ref 586), (1, .int (nI a))]) hc d_Mo_sealed_35 (by decide) rfl ?_
        refine fm_aload_n hc d_Mo_sealed_37 rfl rfl ?_
        refine fm_getR (k := 12) (q := 597) hc K_Mo d_Mo_sealed_38 q_897 rfl (by decide) (by omega) (by decide) (by decide) (by decide) rfl (rp_slot hR) ?_
        refine fm_iload hc d_Mo_sealed_41 rfl ?_
        refine fm_iald (j := ((24 * k) + 16) + a) (len := 96) hc 0 d_Mo_sealed_43 (by decide) (by omega) (by decide) rfl (by omega) (by decide) ?_
        refine fm_top (congrArg Value.int (show (fm_put1 M 586 0 (nI 0)).1 597 (((24 * k) + 16) + a) = nI (sl k) from ((o1 _ _ (by decide)).trans (hs k hk)))) ?_
        refine fm_if_le (tgt := 68) hc d_Mo_sealed_44 rfl (fun gQ => absurd gQ (hnleB (a := sl k) (c := 0) (by omega) (by omega))) (fun _ => ?_)
        refine fm_aload_n hc d_Mo_sealed_47 rfl rfl ?_
        refine fm_getR (k := 23) (q := 608) hc K_Mo d_Mo_sealed_48 q_908 rfl (by decide) (by omega) (by decide) (by decide) (by decide) rfl (rp_hops hR) ?_
        refine fm_iload hc d_Mo_sealed_51 rfl ?_
        refine fm_iald (j := ((24 * k) + 16) + a) (len := 98) hc 0 d_Mo_sealed_53 (by decide) (by omega) (by decide) rfl (by omega) (by decide) ?_
        refine fm_top (congrArg Value.int (show (fm_put1 M 586 0 (nI 0)).1 608 (((24 * k) + 16) + a) = nI (hp k) from ((o1 _ _ (by decide)).trans (hh k hk g0)))) ?_
        refine fm_iload_n hc d_Mo_sealed_54 rfl rfl ?_
        refine fm_icmp_le (tgt := 68) hc d_Mo_sealed_55 rfl (fun _ => ?_) (fun gQ => absurd (Int32.not_lt.mp (fun q => g1 (by have := (kI_ltI (c := hp k + 1) hmb (by omega)).mp q; omega))) gQ)
        refine fm_iload_n hc d_Mo_sealed_68 rfl rfl ?_
        refine fm_istore_n (lv' := [(2, .int (kI (sx_m sl hp k))), (4, .int (nI (((24 * k) + 16) + a))), (3, .int (nI k)), (0, .ref 586), (1, .int (nI a))]) hc d_Mo_sealed_69 rfl (by decide) rfl ?_
        refine fm_iinc (v := nI (k + 1)) (lv' := [(3, .int (nI (k + 1))), (2, .int (kI (sx_m sl hp k))), (4, .int (nI (((24 * k) + 16) + a))), (0, .ref 586), (1, .int (nI a))]) hc d_Mo_sealed_70 rfl (nI_1 k) (by decide) rfl ?_
        refine fm_goto (tgt := 21) hc d_Mo_sealed_73 rfl ?_
        refine fm_dropl (lv' := [(3, .int (nI (k + 1))), (2, .int (kI (sx_m sl hp k))), (0, .ref 586), (1, .int (nI a))]) (by simp) ?_
        exact ih
  · have mb := sx_mb hb 4 (Nat.le_refl 4)
    refine fm_iload_n hc d_Mo_sealed_21 rfl rfl ?_
    refine fm_iconst (v := nI 4) hc d_Mo_sealed_22 rfl ?_
    refine fm_icmp_ge (tgt := 76) hc d_Mo_sealed_23 rfl (fun _ => ?_) (fun gQ => absurd (by decide) gQ)
    refine fm_iconst (v := nI 0) hc d_Mo_sealed_76 rfl ?_
    refine fm_istore_n (lv' := [(3, .int (nI 0)), (2, .int (kI (sx_m sl hp 4))), (0, .ref 586), (1, .int (nI a))]) hc d_Mo_sealed_77 rfl (by decide) rfl ?_
    refine fm_iconst (v := nI 0) hc d_Mo_sealed_78 rfl ?_
    refine fm_istore (lv' := [(4, .int (nI 0)), (3, .int (nI 0)), (2, .int (kI (sx_m sl hp 4))), (0, .ref 586), (1, .int (nI a))]) hc d_Mo_sealed_79 (by decide) rfl ?_
    refine fm_iconst (v := nI 0) hc d_Mo_sealed_81 rfl ?_
    refine fm_istore (lv' := [(5, .int (nI 0)), (4, .int (nI 0)), (3, .int (nI 0)), (2, .int (kI (sx_m sl hp 4))), (0, .ref 586), (1, .int (nI a))]) hc d_Mo_sealed_82 (by decide) rfl ?_
    refine fm_dropl (lv' := [(5, .int (nI 0)), (4, .int (nI (sx_l sl hp (sx_m sl hp 4) 0))), (3, .int (nI (sx_s sl hp (sx_m sl hp 4) 0))), (2, .int (kI (sx_m sl hp 4))), (0, .ref 586), (1, .int (nI a))]) (by simp [sx_s, sx_l]) ?_
    refine fm_loop0 (N := 4) (lv := fun k => [(5, .int (nI k)), (4, .int (nI (sx_l sl hp (sx_m sl hp 4) k))), (3, .int (nI (sx_s sl hp (sx_m sl hp 4) k))), (2, .int (kI (sx_m sl hp 4))), (0, .ref 586), (1, .int (nI a))]) (fun k hk ih => ?_) ?_
    · have hs4k := hs4 k hk
      by_cases g0 : sl k = 0
      · have e1 : sx_l sl hp (sx_m sl hp 4) (k + 1) = sx_l sl hp (sx_m sl hp 4) k := congrArg (sx_l sl hp (sx_m sl hp 4) k + ·) (if_neg (fun q => by have := q.2; omega))
        have e2 : sx_s sl hp (sx_m sl hp 4) (k + 1) = sx_s sl hp (sx_m sl hp 4) k := congrArg (sx_s sl hp (sx_m sl hp 4) k + ·) (if_neg (fun q => q.2.2 g0))
        rw [e1, e2] at ih
        refine fm_iload hc d_Mo_sealed_84 rfl ?_
        refine fm_iconst (v := nI 4) hc d_Mo_sealed_86 rfl ?_
        refine fm_icmp_ge (tgt := 187) hc d_Mo_sealed_87 rfl (fun gQ => absurd gQ (hnleB hk (by decide))) (fun _ => ?_)
        refine fm_bipush (v := nI 24) hc d_Mo_sealed_90 rfl ?_
        refine fm_iload hc d_Mo_sealed_92 rfl ?_
        refine fm_imul hc d_Mo_sealed_94 ?_
        refine fm_top (congrArg Value.int (pk_mul 24 k)) ?_
        refine fm_bipush (v := nI 16) hc d_Mo_sealed_95 rfl ?_
        refine fm_iadd hc d_Mo_sealed_97 ?_
        refine fm_top (congrArg Value.int (nI_add (24 * k) 16)) ?_
        refine fm_iload_n hc d_Mo_sealed_98 rfl rfl ?_
        refine fm_iadd hc d_Mo_sealed_99 ?_
        refine fm_top (congrArg Value.int (nI_add ((24 * k) + 16) a)) ?_
        refine fm_istore (lv' := [(6, .int (nI (((24 * k) + 16) + a))), (5, .int (nI k)), (4, .int (nI (sx_l sl hp (sx_m sl hp 4) k))), (3, .int (nI (sx_s sl hp (sx_m sl hp 4) k))), (2, .int (kI (sx_m sl hp 4))), (0, .ref 586), (1, .int (nI a))]) hc d_Mo_sealed_100 (by decide) rfl ?_
        refine fm_aload_n hc d_Mo_sealed_102 rfl rfl ?_
        refine fm_getR (k := 12) (q := 597) hc K_Mo d_Mo_sealed_103 q_897 rfl (by decide) (by omega) (by decide) (by decide) (by decide) rfl (rp_slot hR) ?_
        refine fm_iload hc d_Mo_sealed_106 rfl ?_
        refine fm_iald (j := ((24 * k) + 16) + a) (len := 96) hc 0 d_Mo_sealed_108 (by decide) (by omega) (by decide) rfl (by omega) (by decide) ?_
        refine fm_top (congrArg Value.int (show (fm_put1 M 586 0 (nI 0)).1 597 (((24 * k) + 16) + a) = nI (sl k) from ((o1 _ _ (by decide)).trans (hs k hk)))) ?_
        refine fm_if_le (tgt := 127) hc d_Mo_sealed_109 rfl (fun _ => ?_) (fun gQ => absurd (by rw [g0]; decide) gQ)
        refine fm_iconst (v := nI 0) hc d_Mo_sealed_127 rfl ?_
        refine fm_istore (lv' := [(7, .int (nI 0)), (6, .int (nI (((24 * k) + 16) + a))), (5, .int (nI k)), (4, .int (nI (sx_l sl hp (sx_m sl hp 4) k))), (3, .int (nI (sx_s sl hp (sx_m sl hp 4) k))), (2, .int (kI (sx_m sl hp 4))), (0, .ref 586), (1, .int (nI a))]) hc d_Mo_sealed_128 (by decide) rfl ?_
        refine fm_iload hc d_Mo_sealed_130 rfl ?_
        refine fm_if_eq (tgt := 152) hc d_Mo_sealed_132 rfl (fun _ => ?_) (fun gQ => absurd (by decide) gQ)
        refine fm_iload_n hc d_Mo_sealed_152 rfl rfl ?_
        refine fm_istore_n (lv' := [(3, .int (nI (sx_s sl hp (sx_m sl hp 4) k))), (7, .int (nI 0)), (6, .int (nI (((24 * k) + 16) + a))), (5, .int (nI k)), (4, .int (nI (sx_l sl hp (sx_m sl hp 4) k))), (2, .int (kI (sx_m sl hp 4))), (0, .ref 586), (1, .int (nI a))]) hc d_Mo_sealed_153 rfl (by decide) rfl ?_
        refine fm_iload hc d_Mo_sealed_154 rfl ?_
        refine fm_if_eq (tgt := 177) hc d_Mo_sealed_156 rfl (fun _ => ?_) (fun gQ => absurd (by decide) gQ)
        refine fm_iload hc d_Mo_sealed_177 rfl ?_
        refine fm_istore (lv' := [(4, .int (nI (sx_l sl hp (sx_m sl hp 4) k))), (3, .int (nI (sx_s sl hp (sx_m sl hp 4) k))), (7, .int (nI 0)), (6, .int (nI (((24 * k) + 16) + a))), (5, .int (nI k)), (2, .int (kI (sx_m sl hp 4))), (0, .ref 586), (1, .int (nI a))]) hc d_Mo_sealed_179 (by decide) rfl ?_
        refine fm_iinc (v := nI (k + 1)) (lv' := [(5, .int (nI (k + 1))), (4, .int (nI (sx_l sl hp (sx_m sl hp 4) k))), (3, .int (nI (sx_s sl hp (sx_m sl hp 4) k))), (7, .int (nI 0)), (6, .int (nI (((24 * k) + 16) + a))), (2, .int (kI (sx_m sl hp 4))), (0, .ref 586), (1, .int (nI a))]) hc d_Mo_sealed_181 rfl (nI_1 k) (by decide) rfl ?_
        refine fm_goto (tgt := 84) hc d_Mo_sealed_184 rfl ?_
        refine fm_dropl (lv' := [(5, .int (nI (k + 1))), (4, .int (nI (sx_l sl hp (sx_m sl hp 4) k))), (3, .int (nI (sx_s sl hp (sx_m sl hp 4) k))), (2, .int (kI (sx_m sl hp 4))), (0, .ref 586), (1, .int (nI a))]) (by simp) ?_
        exact ih
      · have hpk := hp9 k hk g0
        have eh : sx_h sl hp k = hp k + 1 := if_neg g0
        by_cases g1 : sx_h sl hp k = sx_m sl hp 4
        · by_cases g2 : sl k = 2
          · have e1 : sx_l sl hp (sx_m sl hp 4) (k + 1) = sx_l sl hp (sx_m sl hp 4) k + 1 := congrArg (sx_l sl hp (sx_m sl hp 4) k + ·) (if_pos ⟨g1, g2⟩)
            have e2 : sx_s sl hp (sx_m sl hp 4) (k + 1) = sx_s sl hp (sx_m sl hp 4) k := congrArg (sx_s sl hp (sx_m sl hp 4) k + ·) (if_neg (fun q => q.2.1 g2))
            rw [e1, e2] at ih
            refine fm_iload hc d_Mo_sealed_84 rfl ?_
            refine fm_iconst (v := nI 4) hc d_Mo_sealed_86 rfl ?_
            refine fm_icmp_ge (tgt := 187) hc d_Mo_sealed_87 rfl (fun gQ => absurd gQ (hnleB hk (by decide))) (fun _ => ?_)
            refine fm_bipush (v := nI 24) hc d_Mo_sealed_90 rfl ?_
            refine fm_iload hc d_Mo_sealed_92 rfl ?_
            refine fm_imul hc d_Mo_sealed_94 ?_
            refine fm_top (congrArg Value.int (pk_mul 24 k)) ?_
            refine fm_bipush (v := nI 16) hc d_Mo_sealed_95 rfl ?_
            refine fm_iadd hc d_Mo_sealed_97 ?_
            refine fm_top (congrArg Value.int (nI_add (24 * k) 16)) ?_
            refine fm_iload_n hc d_Mo_sealed_98 rfl rfl ?_
            refine fm_iadd hc d_Mo_sealed_99 ?_
            refine fm_top (congrArg Value.int (nI_add ((24 * k) + 16) a)) ?_
            refine fm_istore (lv' := [(6, .int (nI (((24 * k) + 16) + a))), (5, .int (nI k)), (4, .int (nI (sx_l sl hp (sx_m sl hp 4) k))), (3, .int (nI (sx_s sl hp (sx_m sl hp 4) k))), (2, .int (kI (sx_m sl hp 4))), (0, .ref 586), (1, .int (nI a))]) hc d_Mo_sealed_100 (by decide) rfl ?_
            refine fm_aload_n hc d_Mo_sealed_102 rfl rfl ?_
            refine fm_getR (k := 12) (q := 597) hc K_Mo d_Mo_sealed_103 q_897 rfl (by decide) (by omega) (by decide) (by decide) (by decide) rfl (rp_slot hR) ?_
            refine fm_iload hc d_Mo_sealed_106 rfl ?_
            refine fm_iald (j := ((24 * k) + 16) + a) (len := 96) hc 0 d_Mo_sealed_108 (by decide) (by omega) (by decide) rfl (by omega) (by decide) ?_
            refine fm_top (congrArg Value.int (show (fm_put1 M 586 0 (nI 0)).1 597 (((24 * k) + 16) + a) = nI (sl k) from ((o1 _ _ (by decide)).trans (hs k hk)))) ?_
            refine fm_if_le (tgt := 127) hc d_Mo_sealed_109 rfl (fun gQ => absurd gQ (hnleB (a := sl k) (c := 0) (by omega) (by omega))) (fun _ => ?_)
            refine fm_aload_n hc d_Mo_sealed_112 rfl rfl ?_
            refine fm_getR (k := 23) (q := 608) hc K_Mo d_Mo_sealed_113 q_908 rfl (by decide) (by omega) (by decide) (by decide) (by decide) rfl (rp_hops hR) ?_
            refine fm_iload hc d_Mo_sealed_116 rfl ?_
            refine fm_iald (j := ((24 * k) + 16) + a) (len := 98) hc 0 d_Mo_sealed_118 (by decide) (by omega) (by decide) rfl (by omega) (by decide) ?_
            refine fm_top (congrArg Value.int (show (fm_put1 M 586 0 (nI 0)).1 608 (((24 * k) + 16) + a) = nI (hp k) from ((o1 _ _ (by decide)).trans (hh k hk g0)))) ?_
            refine fm_iload_n hc d_Mo_sealed_119 rfl rfl ?_
            refine fm_icmp_ne (tgt := 127) hc d_Mo_sealed_120 rfl (fun gQ => absurd (congrArg kI (eh.symm.trans g1)) gQ) (fun _ => ?_)
            refine fm_iconst (v := nI 1) hc d_Mo_sealed_123 rfl ?_
            refine fm_goto (tgt := 128) hc d_Mo_sealed_124 rfl ?_
            refine fm_istore (lv' := [(7, .int (nI 1)), (6, .int (nI (((24 * k) + 16) + a))), (5, .int (nI k)), (4, .int (nI (sx_l sl hp (sx_m sl hp 4) k))), (3, .int (nI (sx_s sl hp (sx_m sl hp 4) k))), (2, .int (kI (sx_m sl hp 4))), (0, .ref 586), (1, .int (nI a))]) hc d_Mo_sealed_128 (by decide) rfl ?_
            refine fm_iload hc d_Mo_sealed_130 rfl ?_
            refine fm_if_eq (tgt := 152) hc d_Mo_sealed_132 rfl (fun gQ => absurd gQ (by decide)) (fun _ => ?_)
            refine fm_aload_n hc d_Mo_sealed_135 rfl rfl ?_
            refine fm_getR (k := 12) (q := 597) hc K_Mo d_Mo_sealed_136 q_897 rfl (by decide) (by omega) (by decide) (by decide) (by decide) rfl (rp_slot hR) ?_
            refine fm_iload hc d_Mo_sealed_139 rfl ?_
            refine fm_iald (j := ((24 * k) + 16) + a) (len := 96) hc 0 d_Mo_sealed_141 (by decide) (by omega) (by decide) rfl (by omega) (by decide) ?_
            refine fm_top (congrArg Value.int (show (fm_put1 M 586 0 (nI 0)).1 597 (((24 * k) + 16) + a) = nI (sl k) from ((o1 _ _ (by decide)).trans (hs k hk)))) ?_
            refine fm_iconst (v := nI 2) hc d_Mo_sealed_142 rfl ?_
            refine fm_icmp_eq (tgt := 152) hc d_Mo_sealed_143 rfl (fun _ => ?_) (fun gQ => absurd (congrArg nI g2) gQ)
            refine fm_iload_n hc d_Mo_sealed_152 rfl rfl ?_
            refine fm_istore_n (lv' := [(3, .int (nI (sx_s sl hp (sx_m sl hp 4) k))), (7, .int (nI 1)), (6, .int (nI (((24 * k) + 16) + a))), (5, .int (nI k)), (4, .int (nI (sx_l sl hp (sx_m sl hp 4) k))), (2, .int (kI (sx_m sl hp 4))), (0, .ref 586), (1, .int (nI a))]) hc d_Mo_sealed_153 rfl (by decide) rfl ?_
            refine fm_iload hc d_Mo_sealed_154 rfl ?_
            refine fm_if_eq (tgt := 177) hc d_Mo_sealed_156 rfl (fun gQ => absurd gQ (by decide)) (fun _ => ?_)
            refine fm_aload_n hc d_Mo_sealed_159 rfl rfl ?_
            refine fm_getR (k := 12) (q := 597) hc K_Mo d_Mo_sealed_160 q_897 rfl (by decide) (by omega) (by decide) (by decide) (by decide) rfl (rp_slot hR) ?_
            refine fm_iload hc d_Mo_sealed_163 rfl ?_
            refine fm_iald (j := ((24 * k) + 16) + a) (len := 96) hc 0 d_Mo_sealed_165 (by decide) (by omega) (by decide) rfl (by omega) (by decide) ?_
            refine fm_top (congrArg Value.int (show (fm_put1 M 586 0 (nI 0)).1 597 (((24 * k) + 16) + a) = nI (sl k) from ((o1 _ _ (by decide)).trans (hs k hk)))) ?_
            refine fm_iconst (v := nI 2) hc d_Mo_sealed_166 rfl ?_
            refine fm_icmp_ne (tgt := 177) hc d_Mo_sealed_167 rfl (fun gQ => absurd (congrArg nI g2) gQ) (fun _ => ?_)
            refine fm_iload hc d_Mo_sealed_170 rfl ?_
            refine fm_iconst (v := nI 1) hc d_Mo_sealed_172 rfl ?_
            refine fm_iadd hc d_Mo_sealed_173 ?_
            refine fm_top (congrArg Value.int (nI_add (sx_l sl hp (sx_m sl hp 4) k) 1)) ?_
            refine fm_goto (tgt := 179) hc d_Mo_sealed_174 rfl ?_
            refine fm_istore (lv' := [(4, .int (nI ((sx_l sl hp (sx_m sl hp 4) k) + 1))), (3, .int (nI (sx_s sl hp (sx_m sl hp 4) k))), (7, .int (nI 1)), (6, .int (nI (((24 * k) + 16) + a))), (5, .int (nI k)), (2, .int (kI (sx_m sl hp 4))), (0, .ref 586), (1, .int (nI a))]) hc d_Mo_sealed_179 (by decide) rfl ?_
            refine fm_iinc (v := nI (k + 1)) (lv' := [(5, .int (nI (k + 1))), (4, .int (nI ((sx_l sl hp (sx_m sl hp 4) k) + 1))), (3, .int (nI (sx_s sl hp (sx_m sl hp 4) k))), (7, .int (nI 1)), (6, .int (nI (((24 * k) + 16) + a))), (2, .int (kI (sx_m sl hp 4))), (0, .ref 586), (1, .int (nI a))]) hc d_Mo_sealed_181 rfl (nI_1 k) (by decide) rfl ?_
            refine fm_goto (tgt := 84) hc d_Mo_sealed_184 rfl ?_
            refine fm_dropl (lv' := [(5, .int (nI (k + 1))), (4, .int (nI (sx_l sl hp (sx_m sl hp 4) k + 1))), (3, .int (nI (sx_s sl hp (sx_m sl hp 4) k))), (2, .int (kI (sx_m sl hp 4))), (0, .ref 586), (1, .int (nI a))]) (by simp) ?_
            exact ih
          · have e1 : sx_l sl hp (sx_m sl hp 4) (k + 1) = sx_l sl hp (sx_m sl hp 4) k := congrArg (sx_l sl hp (sx_m sl hp 4) k + ·) (if_neg (fun q => g2 q.2))
            have e2 : sx_s sl hp (sx_m sl hp 4) (k + 1) = sx_s sl hp (sx_m sl hp 4) k + 1 := congrArg (sx_s sl hp (sx_m sl hp 4) k + ·) (if_pos ⟨g1, g2, g0⟩)
            rw [e1, e2] at ih
            refine fm_iload hc d_Mo_sealed_84 rfl ?_
            refine fm_iconst (v := nI 4) hc d_Mo_sealed_86 rfl ?_
            refine fm_icmp_ge (tgt := 187) hc d_Mo_sealed_87 rfl (fun gQ => absurd gQ (hnleB hk (by decide))) (fun _ => ?_)
            refine fm_bipush (v := nI 24) hc d_Mo_sealed_90 rfl ?_
            refine fm_iload hc d_Mo_sealed_92 rfl ?_
            refine fm_imul hc d_Mo_sealed_94 ?_
            refine fm_top (congrArg Value.int (pk_mul 24 k)) ?_
            refine fm_bipush (v := nI 16) hc d_Mo_sealed_95 rfl ?_
            refine fm_iadd hc d_Mo_sealed_97 ?_
            refine fm_top (congrArg Value.int (nI_add (24 * k) 16)) ?_
            refine fm_iload_n hc d_Mo_sealed_98 rfl rfl ?_
            refine fm_iadd hc d_Mo_sealed_99 ?_
            refine fm_top (congrArg Value.int (nI_add ((24 * k) + 16) a)) ?_
            refine fm_istore (lv' := [(6, .int (nI (((24 * k) + 16) + a))), (5, .int (nI k)), (4, .int (nI (sx_l sl hp (sx_m sl hp 4) k))), (3, .int (nI (sx_s sl hp (sx_m sl hp 4) k))), (2, .int (kI (sx_m sl hp 4))), (0, .ref 586), (1, .int (nI a))]) hc d_Mo_sealed_100 (by decide) rfl ?_
            refine fm_aload_n hc d_Mo_sealed_102 rfl rfl ?_
            refine fm_getR (k := 12) (q := 597) hc K_Mo d_Mo_sealed_103 q_897 rfl (by decide) (by omega) (by decide) (by decide) (by decide) rfl (rp_slot hR) ?_
            refine fm_iload hc d_Mo_sealed_106 rfl ?_
            refine fm_iald (j := ((24 * k) + 16) + a) (len := 96) hc 0 d_Mo_sealed_108 (by decide) (by omega) (by decide) rfl (by omega) (by decide) ?_
            refine fm_top (congrArg Value.int (show (fm_put1 M 586 0 (nI 0)).1 597 (((24 * k) + 16) + a) = nI (sl k) from ((o1 _ _ (by decide)).trans (hs k hk)))) ?_
            refine fm_if_le (tgt := 127) hc d_Mo_sealed_109 rfl (fun gQ => absurd gQ (hnleB (a := sl k) (c := 0) (by omega) (by omega))) (fun _ => ?_)
            refine fm_aload_n hc d_Mo_sealed_112 rfl rfl ?_
            refine fm_getR (k := 23) (q := 608) hc K_Mo d_Mo_sealed_113 q_908 rfl (by decide) (by omega) (by decide) (by decide) (by decide) rfl (rp_hops hR) ?_
            refine fm_iload hc d_Mo_sealed_116 rfl ?_
            refine fm_iald (j := ((24 * k) + 16) + a) (len := 98) hc 0 d_Mo_sealed_118 (by decide) (by omega) (by decide) rfl (by omega) (by decide) ?_
            refine fm_top (congrArg Value.int (show (fm_put1 M 586 0 (nI 0)).1 608 (((24 * k) + 16) + a) = nI (hp k) from ((o1 _ _ (by decide)).trans (hh k hk g0)))) ?_
            refine fm_iload_n hc d_Mo_sealed_119 rfl rfl ?_
            refine fm_icmp_ne (tgt := 127) hc d_Mo_sealed_120 rfl (fun gQ => absurd (congrArg kI (eh.symm.trans g1)) gQ) (fun _ => ?_)
            refine fm_iconst (v := nI 1) hc d_Mo_sealed_123 rfl ?_
            refine fm_goto (tgt := 128) hc d_Mo_sealed_124 rfl ?_
            refine fm_istore (lv' := [(7, .int (nI 1)), (6, .int (nI (((24 * k) + 16) + a))), (5, .int (nI k)), (4, .int (nI (sx_l sl hp (sx_m sl hp 4) k))), (3, .int (nI (sx_s sl hp (sx_m sl hp 4) k))), (2, .int (kI (sx_m sl hp 4))), (0, .ref 586), (1, .int (nI a))]) hc d_Mo_sealed_128 (by decide) rfl ?_
            refine fm_iload hc d_Mo_sealed_130 rfl ?_
            refine fm_if_eq (tgt := 152) hc d_Mo_sealed_132 rfl (fun gQ => absurd gQ (by decide)) (fun _ => ?_)
            refine fm_aload_n hc d_Mo_sealed_135 rfl rfl ?_
            refine fm_getR (k := 12) (q := 597) hc K_Mo d_Mo_sealed_136 q_897 rfl (by decide) (by omega) (by decide) (by decide) (by decide) rfl (rp_slot hR) ?_
            refine fm_iload hc d_Mo_sealed_139 rfl ?_
            refine fm_iald (j := ((24 * k) + 16) + a) (len := 96) hc 0 d_Mo_sealed_141 (by decide) (by omega) (by decide) rfl (by omega) (by decide) ?_
            refine fm_top (congrArg Value.int (show (fm_put1 M 586 0 (nI 0)).1 597 (((24 * k) + 16) + a) = nI (sl k) from ((o1 _ _ (by decide)).trans (hs k hk)))) ?_
            refine fm_iconst (v := nI 2) hc d_Mo_sealed_142 rfl ?_
            refine fm_icmp_eq (tgt := 152) hc d_Mo_sealed_143 rfl (fun gQ => absurd gQ (fun q => g2 (nI_inj (by omega) (by decide) q))) (fun _ => ?_)
            refine fm_iload_n hc d_Mo_sealed_146 rfl rfl ?_
            refine fm_iconst (v := nI 1) hc d_Mo_sealed_147 rfl ?_
            refine fm_iadd hc d_Mo_sealed_148 ?_
            refine fm_top (congrArg Value.int (nI_add (sx_s sl hp (sx_m sl hp 4) k) 1)) ?_
            refine fm_goto (tgt := 153) hc d_Mo_sealed_149 rfl ?_
            refine fm_istore_n (lv' := [(3, .int (nI ((sx_s sl hp (sx_m sl hp 4) k) + 1))), (7, .int (nI 1)), (6, .int (nI (((24 * k) + 16) + a))), (5, .int (nI k)), (4, .int (nI (sx_l sl hp (sx_m sl hp 4) k))), (2, .int (kI (sx_m sl hp 4))), (0, .ref 586), (1, .int (nI a))]) hc d_Mo_sealed_153 rfl (by decide) rfl ?_
            refine fm_iload hc d_Mo_sealed_154 rfl ?_
            refine fm_if_eq (tgt := 177) hc d_Mo_sealed_156 rfl (fun gQ => absurd gQ (by decide)) (fun _ => ?_)
            refine fm_aload_n hc d_Mo_sealed_159 rfl rfl ?_
            refine fm_getR (k := 12) (q := 597) hc K_Mo d_Mo_sealed_160 q_897 rfl (by decide) (by omega) (by decide) (by decide) (by decide) rfl (rp_slot hR) ?_
            refine fm_iload hc d_Mo_sealed_163 rfl ?_
            refine fm_iald (j := ((24 * k) + 16) + a) (len := 96) hc 0 d_Mo_sealed_165 (by decide) (by omega) (by decide) rfl (by omega) (by decide) ?_
            refine fm_top (congrArg Value.int (show (fm_put1 M 586 0 (nI 0)).1 597 (((24 * k) + 16) + a) = nI (sl k) from ((o1 _ _ (by decide)).trans (hs k hk)))) ?_
            refine fm_iconst (v := nI 2) hc d_Mo_sealed_166 rfl ?_
            refine fm_icmp_ne (tgt := 177) hc d_Mo_sealed_167 rfl (fun _ => ?_) (fun gQ => absurd gQ (fun q => g2 (nI_inj (by omega) (by decide) q)))
            refine fm_iload hc d_Mo_sealed_177 rfl ?_
            refine fm_istore (lv' := [(4, .int (nI (sx_l sl hp (sx_m sl hp 4) k))), (3, .int (nI ((sx_s sl hp (sx_m sl hp 4) k) + 1))), (7, .int (nI 1)), (6, .int (nI (((24 * k) + 16) + a))), (5, .int (nI k)), (2, .int (kI (sx_m sl hp 4))), (0, .ref 586), (1, .int (nI a))]) hc d_Mo_sealed_179 (by decide) rfl ?_
            refine fm_iinc (v := nI (k + 1)) (lv' := [(5, .int (nI (k + 1))), (4, .int (nI (sx_l sl hp (sx_m sl hp 4) k))), (3, .int (nI ((sx_s sl hp (sx_m sl hp 4) k) + 1))), (7, .int (nI 1)), (6, .int (nI (((24 * k) + 16) + a))), (2, .int (kI (sx_m sl hp 4))), (0, .ref 586), (1, .int (nI a))]) hc d_Mo_sealed_181 rfl (nI_1 k) (by decide) rfl ?_
            refine fm_goto (tgt := 84) hc d_Mo_sealed_184 rfl ?_
            refine fm_dropl (lv' := [(5, .int (nI (k + 1))), (4, .int (nI (sx_l sl hp (sx_m sl hp 4) k))), (3, .int (nI (sx_s sl hp (sx_m sl hp 4) k + 1))), (2, .int (kI (sx_m sl hp 4))), (0, .ref 586), (1, .int (nI a))]) (by simp) ?_
            exact ih
        · have e1 : sx_l sl hp (sx_m sl hp 4) (k + 1) = sx_l sl hp (sx_m sl hp 4) k := congrArg (sx_l sl hp (sx_m sl hp 4) k + ·) (if_neg (fun q => g1 q.1))
          have e2 : sx_s sl hp (sx_m sl hp 4) (k + 1) = sx_s sl hp (sx_m sl hp 4) k := congrArg (sx_s sl hp (sx_m sl hp 4) k + ·) (if_neg (fun q => g1 q.1))
          rw [e1, e2] at ih
          refine fm_iload hc d_Mo_sealed_84 rfl ?_
          refine fm_iconst (v := nI 4) hc d_Mo_sealed_86 rfl ?_
          refine fm_icmp_ge (tgt := 187) hc d_Mo_sealed_87 rfl (fun gQ => absurd gQ (hnleB hk (by decide))) (fun _ => ?_)
          refine fm_bipush (v := nI 24) hc d_Mo_sealed_90 rfl ?_
          refine fm_iload hc d_Mo_sealed_92 rfl ?_
          refine fm_imul hc d_Mo_sealed_94 ?_
          refine fm_top (congrArg Value.int (pk_mul 24 k)) ?_
          refine fm_bipush (v := nI 16) hc d_Mo_sealed_95 rfl ?_
          refine fm_iadd hc d_Mo_sealed_97 ?_
          refine fm_top (congrArg Value.int (nI_add (24 * k) 16)) ?_
          refine fm_iload_n hc d_Mo_sealed_98 rfl rfl ?_
          refine fm_iadd hc d_Mo_sealed_99 ?_
          refine fm_top (congrArg Value.int (nI_add ((24 * k) + 16) a)) ?_
          refine fm_istore (lv' := [(6, .int (nI (((24 * k) + 16) + a))), (5, .int (nI k)), (4, .int (nI (sx_l sl hp (sx_m sl hp 4) k))), (3, .int (nI (sx_s sl hp (sx_m sl hp 4) k))), (2, .int (kI (sx_m sl hp 4))), (0, .ref 586), (1, .int (nI a))]) hc d_Mo_sealed_100 (by decide) rfl ?_
          refine fm_aload_n hc d_Mo_sealed_102 rfl rfl ?_
          refine fm_getR (k := 12) (q := 597) hc K_Mo d_Mo_sealed_103 q_897 rfl (by decide) (by omega) (by decide) (by decide) (by decide) rfl (rp_slot hR) ?_
          refine fm_iload hc d_Mo_sealed_106 rfl ?_
          refine fm_iald (j := ((24 * k) + 16) + a) (len := 96) hc 0 d_Mo_sealed_108 (by decide) (by omega) (by decide) rfl (by omega) (by decide) ?_
          refine fm_top (congrArg Value.int (show (fm_put1 M 586 0 (nI 0)).1 597 (((24 * k) + 16) + a) = nI (sl k) from ((o1 _ _ (by decide)).trans (hs k hk)))) ?_
          refine fm_if_le (tgt := 127) hc d_Mo_sealed_109 rfl (fun gQ => absurd gQ (hnleB (a := sl k) (c := 0) (by omega) (by omega))) (fun _ => ?_)
          refine fm_aload_n hc d_Mo_sealed_112 rfl rfl ?_
          refine fm_getR (k := 23) (q := 608) hc K_Mo d_Mo_sealed_113 q_908 rfl (by decide) (by omega) (by decide) (by decide) (by decide) rfl (rp_hops hR) ?_
          refine fm_iload hc d_Mo_sealed_116 rfl ?_
          refine fm_iald (j := ((24 * k) + 16) + a) (len := 98) hc 0 d_Mo_sealed_118 (by decide) (by omega) (by decide) rfl (by omega) (by decide) ?_
          refine fm_top (congrArg Value.int (show (fm_put1 M 586 0 (nI 0)).1 608 (((24 * k) + 16) + a) = nI (hp k) from ((o1 _ _ (by decide)).trans (hh k hk g0)))) ?_
          refine fm_iload_n hc d_Mo_sealed_119 rfl rfl ?_
          refine fm_icmp_ne (tgt := 127) hc d_Mo_sealed_120 rfl (fun _ => ?_) (fun gQ => absurd gQ (fun q => g1 (eh.trans (kI_eqI (a := hp k + 1) (by omega) mb q))))
          refine fm_iconst (v := nI 0) hc d_Mo_sealed_127 rfl ?_
          refine fm_istore (lv' := [(7, .int (nI 0)), (6, .int (nI (((24 * k) + 16) + a))), (5, .int (nI k)), (4, .int (nI (sx_l sl hp (sx_m sl hp 4) k))), (3, .int (nI (sx_s sl hp (sx_m sl hp 4) k))), (2, .int (kI (sx_m sl hp 4))), (0, .ref 586), (1, .int (nI a))]) hc d_Mo_sealed_128 (by decide) rfl ?_
          refine fm_iload hc d_Mo_sealed_130 rfl ?_
          refine fm_if_eq (tgt := 152) hc d_Mo_sealed_132 rfl (fun _ => ?_) (fun gQ => absurd (by decide) gQ)
          refine fm_iload_n hc d_Mo_sealed_152 rfl rfl ?_
          refine fm_istore_n (lv' := [(3, .int (nI (sx_s sl hp (sx_m sl hp 4) k))), (7, .int (nI 0)), (6, .int (nI (((24 * k) + 16) + a))), (5, .int (nI k)), (4, .int (nI (sx_l sl hp (sx_m sl hp 4) k))), (2, .int (kI (sx_m sl hp 4))), (0, .ref 586), (1, .int (nI a))]) hc d_Mo_sealed_153 rfl (by decide) rfl ?_
          refine fm_iload hc d_Mo_sealed_154 rfl ?_
          refine fm_if_eq (tgt := 177) hc d_Mo_sealed_156 rfl (fun _ => ?_) (fun gQ => absurd (by decide) gQ)
          refine fm_iload hc d_Mo_sealed_177 rfl ?_
          refine fm_istore (lv' := [(4, .int (nI (sx_l sl hp (sx_m sl hp 4) k))), (3, .int (nI (sx_s sl hp (sx_m sl hp 4) k))), (7, .int (nI 0)), (6, .int (nI (((24 * k) + 16) + a))), (5, .int (nI k)), (2, .int (kI (sx_m sl hp 4))), (0, .ref 586), (1, .int (nI a))]) hc d_Mo_sealed_179 (by decide) rfl ?_
          refine fm_iinc (v := nI (k + 1)) (lv' := [(5, .int (nI (k + 1))), (4, .int (nI (sx_l sl hp (sx_m sl hp 4) k))), (3, .int (nI (sx_s sl hp (sx_m sl hp 4) k))), (7, .int (nI 0)), (6, .int (nI (((24 * k) + 16) + a))), (2, .int (kI (sx_m sl hp 4))), (0, .ref 586), (1, .int (nI a))]) hc d_Mo_sealed_181 rfl (nI_1 k) (by decide) rfl ?_
          refine fm_goto (tgt := 84) hc d_Mo_sealed_184 rfl ?_
          refine fm_dropl (lv' := [(5, .int (nI (k + 1))), (4, .int (nI (sx_l sl hp (sx_m sl hp 4) k))), (3, .int (nI (sx_s sl hp (sx_m sl hp 4) k))), (2, .int (kI (sx_m sl hp 4))), (0, .ref 586), (1, .int (nI a))]) (by simp) ?_
          exact ih
    · have cb := sx_lb (sl := sl) (hp := hp) (t := sx_m sl hp 4) 4
      by_cases g0 : sx_m sl hp 4 = 0
      · refine fm_iload hc d_Mo_sealed_84 rfl ?_
        refine fm_iconst (v := nI 4) hc d_Mo_sealed_86 rfl ?_
        refine fm_icmp_ge (tgt := 187) hc d_Mo_sealed_87 rfl (fun _ => ?_) (fun gQ => absurd (by decide) gQ)
        refine fm_iload_n hc d_Mo_sealed_187 rfl rfl ?_
        refine fm_if_ge (tgt := 195) hc d_Mo_sealed_188 rfl (fun gQ => absurd gQ (by rw [g0]; decide)) (fun _ => ?_)
        refine fm_iconst (v := (-1)) hc d_Mo_sealed_191 rfl ?_
        refine fm_goto (tgt := 210) hc d_Mo_sealed_192 rfl ?_
        exact fm_iret hc hr d_Mo_sealed_210 (Nat.le_refl _) (Nat.le_refl _) ⟨by rw [show sx_A sl hp = -1 from if_pos g0], rfl, rfl⟩
      · by_cases g3 : 0 < sx_s sl hp (sx_m sl hp 4) 4
        · refine fm_iload hc d_Mo_sealed_84 rfl ?_
          refine fm_iconst (v := nI 4) hc d_Mo_sealed_86 rfl ?_
          refine fm_icmp_ge (tgt := 187) hc d_Mo_sealed_87 rfl (fun _ => ?_) (fun gQ => absurd (by decide) gQ)
          refine fm_iload_n hc d_Mo_sealed_187 rfl rfl ?_
          refine fm_top (congrArg Value.int (show kI (sx_m sl hp 4) = nI (sx_m sl hp 4 - 1) from (kI_pos g0))) ?_
          refine fm_if_ge (tgt := 195) hc d_Mo_sealed_188 rfl (fun _ => ?_) (fun gQ => absurd (nI_le (a := 0) (Nat.zero_le _) (by omega)) gQ)
          refine fm_bipush (v := nI 100) hc d_Mo_sealed_195 rfl ?_
          refine fm_iload_n hc d_Mo_sealed_197 rfl rfl ?_
          refine fm_top (congrArg Value.int (show kI (sx_m sl hp 4) = nI (sx_m sl hp 4 - 1) from (kI_pos g0))) ?_
          refine fm_imul hc d_Mo_sealed_198 ?_
          refine fm_top (congrArg Value.int (pk_mul 100 (sx_m sl hp 4 - 1))) ?_
          refine fm_iload_n hc d_Mo_sealed_199 rfl rfl ?_
          refine fm_if_le (tgt := 207) hc d_Mo_sealed_200 rfl (fun gQ => absurd gQ (hnleB (c := 0) g3 (by omega))) (fun _ => ?_)
          refine fm_iload_n hc d_Mo_sealed_203 rfl rfl ?_
          refine fm_goto (tgt := 209) hc d_Mo_sealed_204 rfl ?_
          refine fm_iadd hc d_Mo_sealed_209 ?_
          refine fm_top (congrArg Value.int (nI_add (100 * (sx_m sl hp 4 - 1)) (sx_s sl hp (sx_m sl hp 4) 4))) ?_
          exact fm_iret hc hr d_Mo_sealed_210 (Nat.le_refl _) (Nat.le_refl _) ⟨by rw [show sx_A sl hp = nI (100 * (sx_m sl hp 4 - 1) + (if 0 < sx_s sl hp (sx_m sl hp 4) 4 then sx_s sl hp (sx_m sl hp 4) 4 else sx_l sl hp (sx_m sl hp 4) 4)) from if_neg g0, if_pos g3], rfl, rfl⟩
        · refine fm_iload hc d_Mo_sealed_84 rfl ?_
          refine fm_iconst (v := nI 4) hc d_Mo_sealed_86 rfl ?_
          refine fm_icmp_ge (tgt := 187) hc d_Mo_sealed_87 rfl (fun _ => ?_) (fun gQ => absurd (by decide) gQ)
          refine fm_iload_n hc d_Mo_sealed_187 rfl rfl ?_
          refine fm_top (congrArg Value.int (show kI (sx_m sl hp 4) = nI (sx_m sl hp 4 - 1) from (kI_pos g0))) ?_
          refine fm_if_ge (tgt := 195) hc d_Mo_sealed_188 rfl (fun _ => ?_) (fun gQ => absurd (nI_le (a := 0) (Nat.zero_le _) (by omega)) gQ)
          refine fm_bipush (v := nI 100) hc d_Mo_sealed_195 rfl ?_
          refine fm_iload_n hc d_Mo_sealed_197 rfl rfl ?_
          refine fm_top (congrArg Value.int (show kI (sx_m sl hp 4) = nI (sx_m sl hp 4 - 1) from (kI_pos g0))) ?_
          refine fm_imul hc d_Mo_sealed_198 ?_
          refine fm_top (congrArg Value.int (pk_mul 100 (sx_m sl hp 4 - 1))) ?_
          refine fm_iload_n hc d_Mo_sealed_199 rfl rfl ?_
          refine fm_if_le (tgt := 207) hc d_Mo_sealed_200 rfl (fun _ => ?_) (fun gQ => absurd (by rw [show sx_s sl hp (sx_m sl hp 4) 4 = 0 by omega]; decide) gQ)
          refine fm_iload hc d_Mo_sealed_207 rfl ?_
          refine fm_iadd hc d_Mo_sealed_209 ?_
          refine fm_top (congrArg Value.int (nI_add (100 * (sx_m sl hp 4 - 1)) (sx_l sl hp (sx_m sl hp 4) 4))) ?_
          exact fm_iret hc hr d_Mo_sealed_210 (Nat.le_refl _) (Nat.le_refl _) ⟨by rw [show sx_A sl hp = nI (100 * (sx_m sl hp 4 - 1) + (if 0 < sx_s sl hp (sx_m sl hp 4) 4 then sx_s sl hp (sx_m sl hp 4) 4 else sx_l sl hp (sx_m sl hp 4) 4)) from if_neg g0, if_neg g3], rfl, rfl⟩
