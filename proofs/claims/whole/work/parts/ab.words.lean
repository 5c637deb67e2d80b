/-! WORDS: which outputs are here; addMissing -/
/-- the word has the bits P, of sixteen -/
def bw_H (H : Int32) (P : Nat → Bool) : Prop := ∀ i, i < 32 → H.toBitVec.getLsbD i = (decide (i < 16) && P i)
theorem bw_eq {H K : Int32} {P : Nat → Bool} (h : bw_H H P) (g : bw_H K P) : H = K := by
  apply Int32.toBitVec_inj.mp
  apply BitVec.eq_of_getLsbD_eq
  intro i hi
  rw [h i hi, g i hi]
theorem bw_ext {H : Int32} {P Q : Nat → Bool} (e : ∀ i, i < 16 → P i = Q i) (h : bw_H H P) : bw_H H Q := fun i hi => by
  rw [h i hi]
  by_cases g : i < 16
  · rw [e i g]
  · simp [g]
theorem bw_key (v : BitVec 32) (t : Nat) (ht : t < 32) : (v.sshiftRight t) &&& 1#32 = if v.getLsbD t then 1#32 else 0#32 := by
  have h1 : ∀ i : Nat, i < 32 → (1#32).getLsbD i = decide (i = 0) := by decide
  apply BitVec.eq_of_getLsbD_eq
  intro i hi
  rw [BitVec.getLsbD_and, h1 i hi]
  by_cases g : i = 0
  · subst g
    rw [BitVec.getLsbD_sshiftRight, if_pos (by omega)]
    by_cases q : v.getLsbD t <;> simp [q]
  · by_cases q : v.getLsbD t <;> simp [q, g]
theorem bw_sh (H : Int32) {i : Nat} (hi : i < 16) : ((H >>> (nI i &&& 31)) &&& nI 1).toBitVec = if H.toBitVec.getLsbD i then 1#32 else 0#32 := by
  rcases (show i = 0 ∨ i = 1 ∨ i = 2 ∨ i = 3 ∨ i = 4 ∨ i = 5 ∨ i = 6 ∨ i = 7 ∨ i = 8 ∨ i = 9 ∨ i = 10 ∨ i = 11 ∨ i = 12 ∨ i = 13 ∨ i = 14 ∨ i = 15 by omega) with rfl | rfl | rfl | rfl | rfl | rfl | rfl | rfl | rfl | rfl | rfl | rfl | rfl | rfl | rfl | rfl
  all_goals exact bw_key H.toBitVec _ (by decide)
theorem bw_bit {H : Int32} {P : Nat → Bool} (h : bw_H H P) {i : Nat} (hi : i < 16) : ((H >>> (nI i &&& 31)) &&& nI 1) = 0 ↔ P i = false := by
  have e := bw_sh H hi
  rw [h i (by omega)] at e
  simp only [hi, decide_true, Bool.true_and] at e
  constructor
  · intro g
    rw [g] at e
    by_cases q : P i
    · rw [if_pos q] at e
      exact absurd e (by decide)
    · simpa using q
  · intro g
    apply Int32.toBitVec_inj.mp
    rw [e, g]
    rfl
theorem bw_m1 : ∀ i : Nat, i < 32 → (-1 : Int32).toBitVec.getLsbD i = true := by decide
theorem bw_not {H K : Int32} {P Q : Nat → Bool} (h : bw_H H P) (g : bw_H K Q) : bw_H (H &&& (K ^^^ (-1))) (fun i => P i && !Q i) := fun i hi => by
  show (H.toBitVec &&& (K.toBitVec ^^^ (-1 : Int32).toBitVec)).getLsbD i = _
  rw [BitVec.getLsbD_and, BitVec.getLsbD_xor, h i hi, g i hi, bw_m1 i hi]
  by_cases q : i < 16 <;> simp [q]
theorem bw_one : ∀ i, i < 16 → ∀ k, k < 32 → (nI 1 <<< (nI i &&& 31)).toBitVec.getLsbD k = decide (k = i) := by decide +kernel
theorem bw_or {H : Int32} {P : Nat → Bool} {i : Nat} (hi : i < 16) (h : bw_H H P) : bw_H (H ||| (nI 1 <<< (nI i &&& 31))) (va_up P i true) := fun k hk => by
  show (H.toBitVec ||| (nI 1 <<< (nI i &&& 31)).toBitVec).getLsbD k = _
  rw [BitVec.getLsbD_or, h k hk, bw_one i hi k hk]
  by_cases q : k = i
  · subst q; simp [va_up, hi]
  · simp [va_up, q]
def bw_lo (c : Nat) : Int32 := nI (2 ^ c - 1)
theorem bw_low : ∀ c, c < 17 → ∀ k, k < 32 → (bw_lo c).toBitVec.getLsbD k = (decide (k < 16) && decide (k < c)) := by decide +kernel
theorem bw_loH {c : Nat} (hc : c ≤ 16) : bw_H (bw_lo c) (fun i => decide (i < c)) := fun k hk => bw_low c (by omega) k hk
theorem bw_0 : bw_H (nI 0) (fun _ => false) := fun k hk => by
  show (0#32).getLsbD k = _
  simp
def m_sayG (M : fm_M) (o a sd : Nat) (v : Int32) : fm_M := fm_put1 (fm_put1 M (o + 1) a ((M.1 (o + 1) a) ||| ((nI 1) <<< ((nI sd) &&& 31)))) (o + 2) (a * 16 + sd) v
def sy_L (n o : Nat) : Prop := 8 ≤ o ∧ o + 2 < n ∧ (fm_lay o).1 = 2 ∧ fm_lay (o + 1) = (100, 8) ∧ fm_lay (o + 2) = (100, 128)
def sy_P (M : fm_M) (o : Nat) : Prop := M.2.2 o 0 = some (o + 1) ∧ M.2.2 o 1 = some (o + 2)
theorem isM_syL {mm n : Nat} (hM : fm_isM mm) (hn : 586 ≤ n) : sy_L n (mm + 6) := by
  have hlo := isM_lo hM
  exact ⟨by omega, by omega, congrArg Prod.fst (ly_M hM (k := 6) (by omega)), ly_M hM (k := 7) (by omega), ly_M hM (k := 8) (by omega)⟩
theorem isM_syP {mm : Nat} {M : fm_M} (hP : fm_MP M mm) : sy_P M (mm + 6) := ⟨hP.2.2.2.2.2.2.1, hP.2.2.2.2.2.2.2.1⟩
theorem sy66 {n : Nat} (hn : 586 ≤ n) : sy_L n 66 := ⟨by decide, by omega, by decide, by decide, by decide⟩
theorem sy70 {n : Nat} (hn : 586 ≤ n) : sy_L n 70 := ⟨by decide, by omega, by decide, by decide, by decide⟩
theorem c_putG {l : Launch} {b : Nat} {x : Nat → Nat} {D : va_G} {dA : Nat → ClassId} {o a sd : Nat} {v : Int32} {n : Nat} {M : fm_M} (ho : sy_L n o) (hP : sy_P M o) (ha : a < 8) (hs : sd < 16) : Met l y_Sy_put (Cond.code y_Sy_put b_Sy_put 4 none :: fm_T0) ({ frames := 1, cells := 0, slots := 0, locals := 20 }) (fm_Pc fm_lay fm_nf fm_fk fm_cl b x D dA (fm_tys dA) (fm_EX b x) false [.ref o, .int (nI a), .int (nI sd), .int v] n M) (fm_Qc fm_lay fm_nf fm_fk fm_cl b x D dA (fun r n' M' => r = none ∧ n' = n ∧ M' = m_sayG M o a sd v)) 0 0 (fm_A b) := by
  refine fm_enter (by decide) (Nat.le_of_ble_eq_true rfl) ?_
  intro p e s m args below meth c9 hc hr hnm hex htg
  have ho1 := ho.1
  have ho2 := ho.2.1
  refine fm_iload_n hc d_Sy_put_0 rfl rfl ?_
  refine fm_callSN (av := [.int (nI a)]) (rest := []) (y := y_An_isAgent) (bytes := b_An_isAgent) hc fm_T0_good (fm_EX_st b x) hex q_416 q_1 (nx_11 hex) q_415 pd_An_isAgent (c_An_isAgent_ok (in8_of ha)) ⟨rfl, rfl, Nat.le_of_ble_eq_true rfl, Nat.le_of_ble_eq_true rfl⟩ ⟨Nat.le_of_ble_eq_true rfl, Nat.le_of_ble_eq_true rfl⟩ d_Sy_put_1 (Nat.le_of_ble_eq_true rfl) (fun r n2 M2 hp => ?_)
  obtain ⟨rfl, hq1, hq2⟩ := hp
  replace hq1 := hq1.symm
  replace hq2 := hq2.symm
  subst hq1 hq2
  refine fm_cnt (z' := (0, 0)) rfl (fm_st (st' := [.int (nI 1)]) rfl ?_)
  refine fm_if_eq (tgt := 41) hc d_Sy_put_4 rfl (fun gQ => absurd gQ (by decide)) (fun _ => ?_)
  refine fm_iload_n hc d_Sy_put_7 rfl rfl ?_
  refine fm_if_lt (tgt := 41) hc d_Sy_put_8 rfl (fun gQ => absurd gQ (fun q => absurd ((nI_ltI (a := sd) (b := 0) (by omega) (by decide)).mp q) (by omega))) (fun _ => ?_)
  refine fm_iload_n hc d_Sy_put_11 rfl rfl ?_
  refine fm_bipush (v := nI 16) hc d_Sy_put_12 rfl ?_
  refine fm_icmp_ge (tgt := 41) hc d_Sy_put_14 rfl (fun gQ => absurd gQ (hnle (a := 16) (c := sd) hs (by omega))) (fun _ => ?_)
  refine fm_aload_n hc d_Sy_put_17 rfl rfl ?_
  refine fm_getR (k := 0) (q := o + 1) hc K_Sy d_Sy_put_18 q_150 rfl (by omega) (by omega) ho.2.2.1 (by decide) (by decide) rfl hP.1 ?_
  refine fm_iload_n hc d_Sy_put_21 rfl rfl ?_
  refine fm_dup2_11 hc d_Sy_put_22 rfl rfl ?_
  refine fm_iald (j := a) (len := 8) hc 0 d_Sy_put_23 (by omega) (by omega) ho.2.2.2.1 rfl (by omega) (by decide) ?_
  refine fm_iconst (v := nI 1) hc d_Sy_put_24 rfl ?_
  refine fm_iload_n hc d_Sy_put_25 rfl rfl ?_
  refine fm_ishl hc d_Sy_put_26 ?_
  refine fm_ior hc d_Sy_put_27 ?_
  refine fm_iast (j := a) (len := 8) (v := (M.1 (o + 1) a) ||| ((nI 1) <<< (nI sd &&& 31))) hc 0 d_Sy_put_28 (by omega) (by omega) ho.2.2.2.1 rfl (by omega) (by decide) ?_
  refine fm_aload_n hc d_Sy_put_29 rfl rfl ?_
  refine fm_getR (k := 1) (q := o + 2) hc K_Sy d_Sy_put_30 q_151 rfl (by omega) (by omega) ho.2.2.1 (by decide) (by decide) rfl hP.2 ?_
  refine fm_iload_n hc d_Sy_put_33 rfl rfl ?_
  refine fm_bipush (v := nI 16) hc d_Sy_put_34 rfl ?_
  refine fm_imul hc d_Sy_put_36 ?_
  refine fm_top (congrArg Value.int (pk_mul a 16)) ?_
  refine fm_iload_n hc d_Sy_put_37 rfl rfl ?_
  refine fm_iadd hc d_Sy_put_38 ?_
  refine fm_top (congrArg Value.int (nI_add (a * 16) sd)) ?_
  refine fm_iload_n hc d_Sy_put_39 rfl rfl ?_
  refine fm_iast (j := (a * 16) + sd) (len := 128) (v := v) hc 0 d_Sy_put_40 (by omega) (by omega) ho.2.2.2.2 rfl (by omega) (by decide) ?_
  exact fm_vret hc hr d_Sy_put_41 (Nat.le_refl _) (Nat.le_refl _) ⟨rfl, rfl, rfl⟩
/-- outputs by agent: C of them, in order, of values W -/
def hc_L (M : fm_M) (o : Nat) (C : Nat → Nat) (W : Nat → Nat → Int32) : Prop := ∀ a, a < 8 → C a ≤ 16 ∧ M.1 (o + 1) a = bw_lo (C a) ∧ ∀ i, i < C a → M.1 (o + 2) (a * 16 + i) = W a i
/-- what a memory's words say beside what is released -/
def sr_ok (C D : Nat → Nat) (H : Nat → Int32) (P : Nat → Nat → Bool) : Prop := ∀ a, a < 8 → C a ≤ 16 ∧ D a ≤ 16 ∧ bw_H (H a) (P a) ∧ (∀ i, i < 16 → P a i = true → i < D a) ∧ (∀ i, i < D a → P a i = true ∨ i < C a)
def sr_C (C D : Nat → Nat) : Nat → Nat := fun a => if C a < D a then D a else C a
def sr_W (C : Nat → Nat) (W V : Nat → Nat → Int32) : Nat → Nat → Int32 := fun a i => if i < C a then W a i else V a i
theorem c_addMiss {l : Launch} {b : Nat} {x : Nat → Nat} {D : va_G} {dA : Nat → ClassId} {o q n : Nat} {C Dd : Nat → Nat} {H : Nat → Int32} {W V : Nat → Nat → Int32} {P : Nat → Nat → Bool} {M : fm_M} (ho : sy_L n o) (hq : sy_L n q) (hoq : o + 2 < q ∨ q + 2 < o) (hP : sy_P M o) (hQ : sy_P M q) (hl : hc_L M o C W) (hH : ∀ a, a < 8 → M.1 (q + 1) a = H a) (hV : ∀ a i, a < 8 → i < 16 → M.1 (q + 2) (a * 16 + i) = V a i) (hs : sr_ok C Dd H P) : Met l y_Sy_addMissing (Cond.code y_Sy_addMissing b_Sy_addMissing 5 none :: fm_T0) ({ frames := 2, cells := 0, slots := 0, locals := 60 }) (fm_Pc fm_lay fm_nf fm_fk fm_cl b x D dA (fm_tys dA) (fm_EX b x) false [.ref o, .ref q] n M) (fm_Qc fm_lay fm_nf fm_fk fm_cl b x D dA (fun r n' M' => r = none ∧ n' = n ∧ hc_L M' o (sr_C C Dd) (sr_W C W V) ∧ M'.2 = M.2 ∧ ∀ q, q ≠ o + 1 → q ≠ o + 2 → M'.1 q = M.1 q)) 0 0 (fm_A b) := by
  refine fm_enter (by decide) (Nat.le_of_ble_eq_true rfl) ?_
  intro p e s m args below meth c9 hc hr hnm hex htg
  have ho1 := ho.1
  have ho2 := ho.2.1
  have hq1 := hq.1
  have hq2 := hq.2.1
  refine fm_iconst (v := nI 0) hc d_Sy_addMissing_0 rfl ?_
  refine fm_istore_n (lv' := [(2, .int (nI 0)), (0, .ref o), (1, .ref q)]) hc d_Sy_addMissing_1 rfl (by decide) rfl ?_
  refine fm_loopI (N := 8) (lv := fun k => [(2, .int (nI k)), (0, .ref o), (1, .ref q)]) (I := fun k M' => (∀ a, a < 8 → M'.1 (o + 1) a = bw_lo (if a < k then sr_C C Dd a else C a) ∧ ∀ i, i < (if a < k then sr_C C Dd a else C a) → M'.1 (o + 2) (a * 16 + i) = sr_W C W V a i) ∧ M'.2 = M.2 ∧ ∀ q, q ≠ o + 1 → q ≠ o + 2 → M'.1 q = M.1 q) (fun k Mk hk hI ih => ?_) (fun Mk hI => ?_) ⟨fun a ha => by rw [if_neg (Nat.not_lt_zero a)]; exact ⟨(hl a ha).2.1, fun i hi => by unfold sr_W; rw [if_pos hi]; exact (hl a ha).2.2 i hi⟩, rfl, fun _ _ _ => rfl⟩
  · obtain ⟨i1, i2, i3⟩ := hI
    have hPk : sy_P Mk o := by unfold sy_P; rw [i2]; exact hP
    have hQk : sy_P Mk q := by unfold sy_P; rw [i2]; exact hQ
    obtain ⟨s1, s2, s3, s4, s5⟩ := hs k hk
    obtain ⟨e1, e2⟩ := i1 k hk
    rw [if_neg (Nat.lt_irrefl k)] at e1 e2
    have eH : Mk.1 (q + 1) k = H k := by rw [i3 _ (by omega) (by omega)]; exact hH k hk
    have bm := bw_not s3 (bw_loH s1)
    generalize hms : (H k &&& (bw_lo (C k) ^^^ (-1))) = ms at bm
    refine fm_iload_n hc d_Sy_addMissing_2 rfl rfl ?_
    refine fm_bipush (v := nI 8) hc d_Sy_addMissing_3 rfl ?_
    refine fm_icmp_ge (tgt := 74) hc d_Sy_addMissing_5 rfl (fun gQ => absurd gQ (hnle (a := 8) (c := k) hk (by omega))) (fun _ => ?_)
    refine fm_aload_n hc d_Sy_addMissing_8 rfl rfl ?_
    refine fm_getR (k := 0) (q := q + 1) hc K_Sy d_Sy_addMissing_9 q_150 rfl (by omega) (by omega) hq.2.2.1 (by decide) (by decide) rfl hQk.1 ?_
    refine fm_iload_n hc d_Sy_addMissing_12 rfl rfl ?_
    refine fm_iald (j := k) (len := 8) hc 0 d_Sy_addMissing_13 (by omega) (by omega) hq.2.2.2.1 rfl (by omega) (by decide) ?_
    refine fm_top (congrArg Value.int (show Mk.1 (q + 1) k = H k from eH)) ?_
    refine fm_aload_n hc d_Sy_addMissing_14 rfl rfl ?_
    refine fm_getR (k := 0) (q := o + 1) hc K_Sy d_Sy_addMissing_15 q_150 rfl (by omega) (by omega) ho.2.2.1 (by decide) (by decide) rfl hPk.1 ?_
    refine fm_iload_n hc d_Sy_addMissing_18 rfl rfl ?_
    refine fm_iald (j := k) (len := 8) hc 0 d_Sy_addMissing_19 (by omega) (by omega) ho.2.2.2.1 rfl (by omega) (by decide) ?_
    refine fm_top (congrArg Value.int (show Mk.1 (o + 1) k = bw_lo (C k) from e1)) ?_
    refine fm_iconst (v := (-1)) hc d_Sy_addMissing_20 rfl ?_
    refine fm_ixor hc d_Sy_addMissing_21 ?_
    refine fm_iand hc d_Sy_addMissing_22 ?_
    refine fm_top (congrArg Value.int (show (H k) &&& ((bw_lo (C k)) ^^^ ((-1))) = ms from hms)) ?_
    refine fm_istore_n (lv' := [(3, .int ms), (2, .int (nI k)), (0, .ref o), (1, .ref q)]) hc d_Sy_addMissing_23 rfl (by decide) rfl ?_
    refine fm_iconst (v := nI 0) hc d_Sy_addMissing_24 rfl ?_
    refine fm_istore (lv' := [(4, .int (nI 0)), (3, .int ms), (2, .int (nI k)), (0, .ref o), (1, .ref q)]) hc d_Sy_addMissing_25 (by decide) rfl ?_
    refine fm_loopI (N := 16) (lv := fun i => [(4, .int (nI i)), (3, .int ms), (2, .int (nI k)), (0, .ref o), (1, .ref q)]) (I := fun i M' => bw_H (M'.1 (o + 1) k) (fun c => decide (c < C k) || (decide (c < i) && P k c)) ∧ (∀ c, c < C k → M'.1 (o + 2) (k * 16 + c) = W k c) ∧ (∀ c, c < i → P k c = true → ¬ c < C k → M'.1 (o + 2) (k * 16 + c) = V k c) ∧ M'.2 = M.2 ∧ ∀ q j, ¬ (q = o + 1 ∧ j = k) → ¬ (q = o + 2 ∧ k * 16 ≤ j ∧ j < k * 16 + 16) → M'.1 q j = Mk.1 q j) (fun i Mi hi hI ihi => ?_) (fun Mi hI => ?_) ⟨?_, ?_, fun c hc => absurd hc (Nat.not_lt_zero c), i2, fun _ _ _ _ => rfl⟩
    · obtain ⟨j1, j2, j3, j4, j5⟩ := hI
      have hPi : sy_P Mi o := by unfold sy_P; rw [j4]; exact hP
      have hQi : sy_P Mi q := by unfold sy_P; rw [j4]; exact hQ
      have eV : Mi.1 (q + 2) (k * 16 + i) = V k i := by rw [j5 _ _ (by omega) (by omega), i3 _ (by omega) (by omega)]; exact hV k i hk hi
      have hb := bw_bit bm hi
      by_cases g : P k i = true ∧ ¬ i < C k
      · refine fm_iload hc d_Sy_addMissing_27 rfl ?_
        refine fm_bipush (v := nI 16) hc d_Sy_addMissing_29 rfl ?_
        refine fm_icmp_ge (tgt := 68) hc d_Sy_addMissing_31 rfl (fun gQ => absurd gQ (hnle (a := 16) (c := i) hi (by omega))) (fun _ => ?_)
        refine fm_iload_n hc d_Sy_addMissing_34 rfl rfl ?_
        refine fm_iload hc d_Sy_addMissing_35 rfl ?_
        refine fm_ishr hc d_Sy_addMissing_37 ?_
        refine fm_iconst (v := nI 1) hc d_Sy_addMissing_38 rfl ?_
        refine fm_iand hc d_Sy_addMissing_39 ?_
        refine fm_if_eq (tgt := 62) hc d_Sy_addMissing_40 rfl (fun gQ => absurd gQ (fun q => by have := hb.mp q; simp [g.1, g.2] at this)) (fun _ => ?_)
        refine fm_aload_n hc d_Sy_addMissing_43 rfl rfl ?_
        refine fm_iload_n hc d_Sy_addMissing_44 rfl rfl ?_
        refine fm_iload hc d_Sy_addMissing_45 rfl ?_
        refine fm_aload_n hc d_Sy_addMissing_47 rfl rfl ?_
        refine fm_getR (k := 1) (q := q + 2) hc K_Sy d_Sy_addMissing_48 q_151 rfl (by omega) (by omega) hq.2.2.1 (by decide) (by decide) rfl hQi.2 ?_
        refine fm_iload_n hc d_Sy_addMissing_51 rfl rfl ?_
        refine fm_bipush (v := nI 16) hc d_Sy_addMissing_52 rfl ?_
        refine fm_imul hc d_Sy_addMissing_54 ?_
        refine fm_top (congrArg Value.int (pk_mul k 16)) ?_
        refine fm_iload hc d_Sy_addMissing_55 rfl ?_
        refine fm_iadd hc d_Sy_addMissing_57 ?_
        refine fm_top (congrArg Value.int (nI_add (k * 16) i)) ?_
        refine fm_iald (j := (k * 16) + i) (len := 128) hc 0 d_Sy_addMissing_58 (by omega) (by omega) hq.2.2.2.2 rfl (by omega) (by decide) ?_
        refine fm_top (congrArg Value.int (show Mi.1 (q + 2) ((k * 16) + i) = V k i from eV)) ?_
        refine fm_callV (av := [.int (nI k), .int (nI i), .int (V k i)]) (rest := []) (ob := o) (ci := 2) (r0 := ("AgentNet$Sayings", F_Sy, 2)) (y := y_Sy_put) (bytes := b_Sy_put) hc fm_T0_good (fm_EX_st b x) hex q_674 q_6 q_792 q_672 q_673 pd_Sy_put (by omega) (by omega) ho.2.2.1 (by decide) rfl rfl (c_putG (v := V k i) ho hPi hk hi) ⟨rfl, rfl, Nat.le_of_ble_eq_true rfl, Nat.le_of_ble_eq_true rfl⟩ ⟨Nat.le_of_ble_eq_true rfl, Nat.le_of_ble_eq_true rfl⟩ d_Sy_addMissing_59 (Nat.le_of_ble_eq_true rfl) (fun r n2 M2 hp => ?_)
        obtain ⟨rfl, hq1, hq2⟩ := hp
        replace hq1 := hq1.symm
        subst hq1
        refine fm_cnt (z' := (0, 0)) rfl (fm_st (st' := []) rfl ?_)
        refine fm_iinc (v := nI (i + 1)) (lv' := [(4, .int (nI (i + 1))), (3, .int ms), (2, .int (nI k)), (0, .ref o), (1, .ref q)]) hc d_Sy_addMissing_62 rfl (nI_1 i) (by decide) rfl ?_
        refine fm_goto (tgt := 27) hc d_Sy_addMissing_65 rfl ?_
        refine fm_dropl (lv' := [(4, .int (nI (i + 1))), (3, .int ms), (2, .int (nI k)), (0, .ref o), (1, .ref q)]) (by simp) ?_
        refine ihi _ ⟨?_, fun c hc => ?_, fun c hc hp1 hp2 => ?_, by rw [hq2]; exact j4, fun q j a b => ?_⟩
        · rw [hq2]
          show bw_H ((fm_put1 (fm_put1 Mi (o + 1) k _) (o + 2) (k * 16 + i) _).1 (o + 1) k) _
          rw [p1_other (by omega), p1_same]
          refine bw_ext (fun c hc => ?_) (bw_or hi j1)
          by_cases e : c = i
          · subst e
            simp [va_up, g.1]
          · have : (decide (c < i + 1)) = (decide (c < i)) := by
              by_cases q : c < i
              · rw [decide_eq_true q, decide_eq_true (by omega)]
              · rw [decide_eq_false q, decide_eq_false (by omega)]
            simp [va_up, e, this]
        · rw [hq2]
          exact (p1_at (by omega)).trans ((p1_other (by omega)).trans (j2 c hc))
        · rw [hq2]
          by_cases e : c = i
          · subst e
            exact p1_same _ _ _ _
          · exact (p1_at (by omega)).trans ((p1_other (by omega)).trans (j3 c (by omega) hp1 hp2))
        · rw [hq2]
          have e1 : (m_sayG Mi o k i (V k i)).1 q j = Mi.1 q j := by
            show (fm_put1 (fm_put1 Mi (o + 1) k _) (o + 2) (k * 16 + i) _).1 q j = _
            by_cases c1 : q = o + 2
            · subst c1
              exact (p1_at (by omega)).trans (p1_other (by omega))
            · rw [p1_other c1]
              by_cases c2 : q = o + 1
              · subst c2
                exact p1_at (by omega)
              · exact p1_other c2
          exact e1.trans (j5 q j a b)
      · refine fm_iload hc d_Sy_addMissing_27 rfl ?_
        refine fm_bipush (v := nI 16) hc d_Sy_addMissing_29 rfl ?_
        refine fm_icmp_ge (tgt := 68) hc d_Sy_addMissing_31 rfl (fun gQ => absurd gQ (hnle (a := 16) (c := i) hi (by omega))) (fun _ => ?_)
        refine fm_iload_n hc d_Sy_addMissing_34 rfl rfl ?_
        refine fm_iload hc d_Sy_addMissing_35 rfl ?_
        refine fm_ishr hc d_Sy_addMissing_37 ?_
        refine fm_iconst (v := nI 1) hc d_Sy_addMissing_38 rfl ?_
        refine fm_iand hc d_Sy_addMissing_39 ?_
        refine fm_if_eq (tgt := 62) hc d_Sy_addMissing_40 rfl (fun _ => ?_) (fun gQ => absurd (hb.mpr (by by_cases c1 : P k i = true <;> by_cases c2 : i < C k <;> simp_all)) gQ)
        refine fm_iinc (v := nI (i + 1)) (lv' := [(4, .int (nI (i + 1))), (3, .int ms), (2, .int (nI k)), (0, .ref o), (1, .ref q)]) hc d_Sy_addMissing_62 rfl (nI_1 i) (by decide) rfl ?_
        refine fm_goto (tgt := 27) hc d_Sy_addMissing_65 rfl ?_
        refine fm_dropl (lv' := [(4, .int (nI (i + 1))), (3, .int ms), (2, .int (nI k)), (0, .ref o), (1, .ref q)]) (by simp) ?_
        refine ihi _ ⟨bw_ext (fun c hc => ?_) j1, j2, fun c hc hp1 hp2 => j3 c ?_ hp1 hp2, j4, j5⟩
        · by_cases e : c = i
          · subst e
            by_cases c1 : P k c = true <;> by_cases c2 : c < C k <;> simp_all
          · have : (decide (c < i + 1)) = (decide (c < i)) := by
              by_cases q : c < i
              · rw [decide_eq_true q, decide_eq_true (by omega)]
              · rw [decide_eq_false q, decide_eq_false (by omega)]
            rw [this]
        · by_cases e : c = i
          · subst e
            exact absurd ⟨hp1, hp2⟩ g
          · omega
    · obtain ⟨j1, j2, j3, j4, j5⟩ := hI
      have s16 : sr_C C Dd k ≤ 16 := by unfold sr_C; split <;> omega
      have ew : Mi.1 (o + 1) k = bw_lo (sr_C C Dd k) := by
        refine bw_eq j1 (bw_ext (fun c hc => ?_) (bw_loH s16))
        have h4 := s4 c hc
        have h5 := s5 c
        unfold sr_C
        rw [decide_eq_true hc, Bool.true_and]
        by_cases c1 : c < C k
        · rw [decide_eq_true c1, Bool.true_or]
          exact decide_eq_true (by split <;> omega)
        · rw [decide_eq_false c1, Bool.false_or]
          by_cases c2 : P k c = true
          · rw [c2]
            exact decide_eq_true (by have := h4 c2; split <;> omega)
          · have c3 : ¬ c < Dd k := fun q => (h5 q).elim (fun q => c2 q) (fun q => c1 q)
            rw [show P k c = false by simpa using c2]
            exact decide_eq_false (by split <;> omega)
      have fin : (∀ a, a < 8 → Mi.1 (o + 1) a = bw_lo (if a < (k + 1) then sr_C C Dd a else C a) ∧ ∀ i, i < (if a < (k + 1) then sr_C C Dd a else C a) → Mi.1 (o + 2) (a * 16 + i) = sr_W C W V a i) ∧ Mi.2 = M.2 ∧ ∀ q, q ≠ o + 1 → q ≠ o + 2 → Mi.1 q = M.1 q := by
        refine ⟨fun a ha => ?_, j4, fun q c1 c2 => (funext fun j => j5 q j (by omega) (by omega)).trans (i3 q c1 c2)⟩
        by_cases e : a = k
        · subst e
          rw [if_pos (Nat.lt_succ_self a)]
          refine ⟨ew, fun i hi => ?_⟩
          unfold sr_W
          by_cases c1 : i < C a
          · rw [if_pos c1]; exact j2 i c1
          · rw [if_neg c1]
            have hD : i < Dd a := by unfold sr_C at hi; split at hi <;> omega
            exact j3 i (by omega) ((s5 i hD).resolve_right c1) c1
        · have e2 : (if a < k + 1 then sr_C C Dd a else C a) = (if a < k then sr_C C Dd a else C a) := by
            by_cases q : a < k
            · rw [if_pos q, if_pos (by omega)]
            · rw [if_neg q, if_neg (by omega)]
          rw [e2]
          have hC16 : (if a < k then sr_C C Dd a else C a) ≤ 16 := by
            obtain ⟨t1, t2, -⟩ := hs a ha
            unfold sr_C
            split
            · split <;> omega
            · omega
          refine ⟨(j5 _ _ (by omega) (by omega)).trans (i1 a ha).1, fun i hi => (j5 _ _ (by omega) (by omega)).trans ((i1 a ha).2 i hi)⟩
      refine fm_iload hc d_Sy_addMissing_27 rfl ?_
      refine fm_bipush (v := nI 16) hc d_Sy_addMissing_29 rfl ?_
      refine fm_icmp_ge (tgt := 68) hc d_Sy_addMissing_31 rfl (fun _ => ?_) (fun gQ => absurd (by decide) gQ)
      refine fm_iinc (v := nI (k + 1)) (lv' := [(2, .int (nI (k + 1))), (4, .int (nI 16)), (3, .int ms), (0, .ref o), (1, .ref q)]) hc d_Sy_addMissing_68 rfl (nI_1 k) (by decide) rfl ?_
      refine fm_goto (tgt := 2) hc d_Sy_addMissing_71 rfl ?_
      refine fm_dropl (lv' := [(2, .int (nI (k + 1))), (0, .ref o), (1, .ref q)]) (by simp) ?_
      exact ih _ fin
    · rw [e1]
      exact bw_ext (fun c hc => by simp) (bw_loH s1)
    · intro c hc
      have := e2 c hc
      unfold sr_W at this
      rw [if_pos hc] at this
      exact this
  · obtain ⟨i1, i2, i3⟩ := hI
    refine fm_iload_n hc d_Sy_addMissing_2 rfl rfl ?_
    refine fm_bipush (v := nI 8) hc d_Sy_addMissing_3 rfl ?_
    refine fm_icmp_ge (tgt := 74) hc d_Sy_addMissing_5 rfl (fun _ => ?_) (fun gQ => absurd (by decide) gQ)
    exact fm_vret hc hr d_Sy_addMissing_74 (Nat.le_refl _) (Nat.le_refl _) ⟨rfl, rfl, fun a ha => by
      obtain ⟨t1, t2, -⟩ := hs a ha
      have := i1 a ha
      rw [if_pos ha] at this
      exact ⟨by unfold sr_C; split <;> omega, this.1, this.2⟩, i2, i3⟩
