/-! THE CLASS: a message is taken out of the row -/
def rm_s (k ln c : Nat) : Nat := if c = 20 then k else if c = ln - 1 then 20 else if k ≤ c ∧ c < ln - 1 then c + 1 else c
theorem rm_lt {k ln c : Nat} (hk : k < ln) (hl : ln ≤ 20) (hc : c < 21) : rm_s k ln c < 21 := by
  unfold rm_s
  split
  · omega
  · split
    · omega
    · split <;> omega
theorem rm_inj {k ln a c : Nat} (hk : k < ln) (hl : ln ≤ 20) (ha : a < 21) (hc : c < 21) (e : rm_s k ln a = rm_s k ln c) : a = c := by
  unfold rm_s at e
  split at e <;> split at e <;> (try split at e) <;> (try split at e) <;> (try split at e) <;> (try split at e) <;> omega
theorem c_remove {l : Launch} {b : Nat} {x : Nat → Nat} {D : va_G} {dA : Nat → ClassId} {k n : Nat} {w : Nat → Nat} {ms : List mg_T} {m0 : mg_T} {M : fm_M} (hn : 586 ≤ n) (hpw : wi_P M w) (h : hc_W M w ms) (hk : ms[k]? = some m0) : Met l y_Wi_remove (Cond.code y_Wi_remove b_Wi_remove 4 (some (.object "AgentNet$Message")) :: fm_T0) ({ frames := 0, cells := 0, slots := 0, locals := 0 }) (fm_Pc fm_lay fm_nf fm_fk fm_cl b x D dA (fm_tys dA) (fm_EX b x) false [.ref 16, .int (nI k)] n M) (fm_Qc fm_lay fm_nf fm_fk fm_cl b x D dA (fun r n' M' => r = some (.ref (18 + 2 * w k)) ∧ n' = n ∧ wi_P M' (fun c => w (rm_s k ms.length c)) ∧ hc_W M' (fun c => w (rm_s k ms.length c)) (ms.eraseIdx k) ∧ hc_G M' (18 + 2 * w k) m0 ∧ M'.2.1 = M.2.1 ∧ (∀ z, z ≠ 16 → M'.1 z = M.1 z) ∧ (∀ z, z ≠ 16 → z ≠ 17 → M'.2.2 z = M.2.2 z))) 0 0 (fm_A b) := by
  refine fm_enter (by decide) (Nat.le_of_ble_eq_true rfl) ?_
  intro p e s m args below meth c9 hc hr hnm hex htg
  have hkl : k < ms.length := (List.getElem?_eq_some_iff.mp hk).1
  have h20 := h.2.1
  obtain ⟨p1, p2, p3, p4, p5, p6⟩ := hpw
  have hwk := p4 k (by omega)
  have hw20 := p4 20 (by omega)
  obtain ⟨q, hq⟩ : ∃ q, q = 18 + 2 * w k := ⟨_, rfl⟩
  obtain ⟨sp, hsp⟩ : ∃ sp, sp = 18 + 2 * w 20 := ⟨_, rfl⟩
  have hQ : ms_L n q := by rw [hq]; exact ms_of hn hwk
  have hS : ms_L n sp := by rw [hsp]; exact ms_of hn hw20
  have hq1 := hQ.1
  have hq2 := hQ.2.1
  have hs1 := hS.1
  have hs2 := hS.2.1
  have hpq : M.2.2 17 k = some q := by rw [hq]; exact p2 _ (by omega)
  have hps : M.2.2 16 2 = some sp := by rw [hsp]; exact p3
  refine fm_aload_n hc d_Wi_remove_0 rfl rfl ?_
  refine fm_getR (k := 0) (q := 17) hc K_Wi d_Wi_remove_1 q_82 rfl (by decide) (by omega) (by decide) (by decide) (by decide) rfl p1 ?_
  refine fm_iload_n hc d_Wi_remove_4 rfl rfl ?_
  refine fm_aald (q := q) (j := k) (len := 20) hc 6 d_Wi_remove_5 (by decide) (by omega) (by decide) (by decide) rfl (by omega) (by decide) hpq ?_
  refine fm_astore_n (lv' := [(2, .ref q), (0, .ref 16), (1, .int (nI k))]) hc d_Wi_remove_6 rfl (by decide) rfl ?_
  refine fm_aload_n hc d_Wi_remove_7 rfl rfl ?_
  refine fm_dup hc d_Wi_remove_8 rfl ?_
  refine fm_getI (k := 1) hc K_Wi d_Wi_remove_9 q_84 rfl (by decide) (by omega) (by decide) (by decide) (by decide) rfl ?_
  refine fm_top (congrArg Value.int (show M.1 16 1 = nI ms.length from h.1)) ?_
  refine fm_iconst (v := nI 1) hc d_Wi_remove_12 rfl ?_
  refine fm_isub hc d_Wi_remove_13 ?_
  refine fm_top (congrArg Value.int (pk_sub (a := ms.length) (b := 1) (by omega))) ?_
  refine fm_putI (k := 1) (v := nI (ms.length - 1)) hc K_Wi d_Wi_remove_14 q_84 rfl (by decide) (by omega) (by decide) (by decide) (by decide) rfl rfl rfl rfl ?_
  refine fm_iload_n hc d_Wi_remove_17 rfl rfl ?_
  refine fm_istore_n (lv' := [(3, .int (nI k)), (2, .ref q), (0, .ref 16), (1, .int (nI k))]) hc d_Wi_remove_18 rfl (by decide) rfl ?_
  refine fm_dropl (lv' := [(3, .int (nI (k + 0))), (2, .ref q), (0, .ref 16), (1, .int (nI k))]) (by simp) ?_
  refine fm_loopI (N := ms.length - 1 - k) (lv := fun i => [(3, .int (nI (k + i))), (2, .ref q), (0, .ref 16), (1, .int (nI k))]) (I := fun i M' => M'.1 = (fm_put1 M 16 1 (nI (ms.length - 1))).1 ∧ M'.2.1 = M.2.1 ∧ (∀ z, z ≠ 17 → M'.2.2 z = M.2.2 z) ∧ ∀ c, c < 20 → M'.2.2 17 c = some (18 + 2 * (if k ≤ c ∧ c < k + i then w (c + 1) else w c))) (fun i Mi hi hI ih => ?_) (fun Mi hI => ?_) ⟨rfl, rfl, fun _ _ => rfl, fun c hc => by rw [if_neg (by omega)]; exact p2 c hc⟩
  · obtain ⟨i1, i2, i3, i4⟩ := hI
    obtain ⟨oo, hoo⟩ : ∃ oo, oo = 18 + 2 * w (k + i + 1) := ⟨_, rfl⟩
    have hO : ms_L n oo := by rw [hoo]; exact ms_of hn (p4 _ (by omega))
    have ho1 := hO.1
    have ho2 := hO.2.1
    have hpo : Mi.2.2 17 (k + i + 1) = some oo := by rw [i4 _ (by omega), if_neg (by omega), hoo]
    have hct : Mi.1 16 1 = nI (ms.length - 1) := by rw [i1]; exact p1_same _ _ _ _
    refine fm_iload_n hc d_Wi_remove_19 rfl rfl ?_
    refine fm_aload_n hc d_Wi_remove_20 rfl rfl ?_
    refine fm_getI (k := 1) hc K_Wi d_Wi_remove_21 q_84 rfl (by decide) (by omega) (by decide) (by decide) (by decide) rfl ?_
    refine fm_top (congrArg Value.int (show Mi.1 16 1 = nI (ms.length - 1) from hct)) ?_
    refine fm_icmp_ge (tgt := 47) hc d_Wi_remove_24 rfl (fun gQ => absurd gQ (hnle (a := ms.length - 1) (c := k + i) (by omega) (by omega))) (fun _ => ?_)
    refine fm_aload_n hc d_Wi_remove_27 rfl rfl ?_
    refine fm_getR (k := 0) (q := 17) hc K_Wi d_Wi_remove_28 q_82 rfl (by decide) (by omega) (by decide) (by decide) (by decide) rfl (by rw [i3 16 (by decide)]; exact p1) ?_
    refine fm_iload_n hc d_Wi_remove_31 rfl rfl ?_
    refine fm_aload_n hc d_Wi_remove_32 rfl rfl ?_
    refine fm_getR (k := 0) (q := 17) hc K_Wi d_Wi_remove_33 q_82 rfl (by decide) (by omega) (by decide) (by decide) (by decide) rfl (by rw [i3 16 (by decide)]; exact p1) ?_
    refine fm_iload_n hc d_Wi_remove_36 rfl rfl ?_
    refine fm_iconst (v := nI 1) hc d_Wi_remove_37 rfl ?_
    refine fm_iadd hc d_Wi_remove_38 ?_
    refine fm_top (congrArg Value.int (nI_add (k + i) 1)) ?_
    refine fm_aald (q := oo) (j := (k + i) + 1) (len := 20) hc 6 d_Wi_remove_39 (by decide) (by omega) (by decide) (by decide) rfl (by omega) (by decide) hpo ?_
    refine fm_aast (r := ("AgentNet$Message", F_Ms, 8)) (q := oo) (j := k + i) (len := 20) (ki := 122) (ci := 9) hc 6 d_Wi_remove_40 (by decide) (by omega) (by decide) (by decide) rfl (by omega) (by decide) (by omega) (by omega) hO.2.2.2.1 (by decide) rfl ?_
    refine fm_iinc (v := nI (k + i + 1)) (lv' := [(3, .int (nI (k + i + 1))), (2, .ref q), (0, .ref 16), (1, .int (nI k))]) hc d_Wi_remove_41 rfl (nI_1 (k + i)) (by decide) rfl ?_
    refine fm_goto (tgt := 19) hc d_Wi_remove_44 rfl ?_
    refine fm_dropl (lv' := [(3, .int (nI (k + (i + 1)))), (2, .ref q), (0, .ref 16), (1, .int (nI k))]) (by simp [Nat.add_assoc]) ?_
    refine ih _ ⟨i1, i2, fun z hz => by rw [p3_ot hz]; exact i3 z hz, fun c hc => ?_⟩
    by_cases e : c = k + i
    · subst e
      rw [p3_same, if_pos (by omega), hoo]
    · rw [p3_at e, i4 c hc]
      by_cases g : k ≤ c ∧ c < k + i
      · rw [if_pos g, if_pos (by omega)]
      · rw [if_neg g, if_neg (by omega)]
  · obtain ⟨i1, i2, i3, i4⟩ := hI
    have hct : Mi.1 16 1 = nI (ms.length - 1) := by rw [i1]; exact p1_same _ _ _ _
    have x2 : ∀ z, z ≠ 16 → z ≠ 17 → (fm_put3 (fm_put3 Mi 17 (ms.length - 1) (some sp)) 16 2 (some q)).2.2 z = M.2.2 z := fun z a b => by rw [p3_ot a, p3_ot b]; exact i3 z b
    have x1 : ∀ z, z ≠ 16 → (fm_put3 (fm_put3 Mi 17 (ms.length - 1) (some sp)) 16 2 (some q)).1 z = M.1 z := fun z a => by
      show Mi.1 z = M.1 z
      rw [i1]; exact funext fun i => p1_other a
    have hP9 : wi_P (fm_put3 (fm_put3 Mi 17 (ms.length - 1) (some sp)) 16 2 (some q)) (fun c => w (rm_s k ms.length c)) := by
      refine ⟨?_, fun c hc => ?_, ?_, fun c hc => p4 _ (rm_lt hkl h20 hc), fun a c ha hc e => rm_inj hkl h20 ha hc (p5 _ _ (rm_lt hkl h20 ha) (rm_lt hkl h20 hc) e), fun u hu => by rw [x2 _ (by omega) (by omega)]; exact p6 u hu⟩
      · rw [p3_at (by decide), p3_ot (by decide), i3 16 (by decide)]; exact p1
      · rw [p3_ot (by decide)]
        show _ = some (18 + 2 * w (rm_s k ms.length c))
        unfold rm_s
        rw [if_neg (by omega)]
        by_cases e : c = ms.length - 1
        · rw [if_pos e, e, p3_same, hsp]
        · rw [if_neg e, p3_at e, i4 c hc]
          by_cases g : k ≤ c ∧ c < ms.length - 1
          · rw [if_pos g, if_pos (by omega)]
          · rw [if_neg g, if_neg (by omega)]
      · rw [p3_same, hq]
        show _ = some (18 + 2 * w (rm_s k ms.length 20))
        unfold rm_s
        rw [if_pos rfl]
    have hlen : (ms.eraseIdx k).length = ms.length - 1 := by rw [List.length_eraseIdx, if_pos hkl]
    have hW9 : hc_W (fm_put3 (fm_put3 Mi 17 (ms.length - 1) (some sp)) 16 2 (some q)) (fun c => w (rm_s k ms.length c)) (ms.eraseIdx k) := by
      refine ⟨by rw [hlen]; exact hct, by omega, fun c m hc => ?_⟩
      have hc' : c < ms.length - 1 := by rw [← hlen]; exact (List.getElem?_eq_some_iff.mp hc).1
      rw [List.getElem?_eraseIdx] at hc
      have hs : rm_s k ms.length c = if c < k then c else c + 1 := by
        unfold rm_s
        rw [if_neg (by omega), if_neg (by omega)]
        by_cases g : c < k
        · rw [if_neg (by omega), if_pos g]
        · rw [if_pos (by omega), if_neg g]
      show hc_G _ (18 + 2 * w (rm_s k ms.length c)) m
      rw [hs]
      by_cases g : c < k
      · rw [if_pos g] at hc ⊢
        exact hcG_of (x1 _ (by omega)) (x1 _ (by omega)) (h.2.2 c m hc)
      · rw [if_neg g] at hc ⊢
        exact hcG_of (x1 _ (by omega)) (x1 _ (by omega)) (h.2.2 (c + 1) m hc)
    refine fm_iload_n hc d_Wi_remove_19 rfl rfl ?_
    refine fm_aload_n hc d_Wi_remove_20 rfl rfl ?_
    refine fm_getI (k := 1) hc K_Wi d_Wi_remove_21 q_84 rfl (by decide) (by omega) (by decide) (by decide) (by decide) rfl ?_
    refine fm_top (congrArg Value.int (show Mi.1 16 1 = nI (ms.length - 1) from hct)) ?_
    refine fm_icmp_ge (tgt := 47) hc d_Wi_remove_24 rfl (fun _ => ?_) (fun gQ => absurd (nI_le (by omega) (by omega)) gQ)
    refine fm_aload_n hc d_Wi_remove_47 rfl rfl ?_
    refine fm_getR (k := 0) (q := 17) hc K_Wi d_Wi_remove_48 q_82 rfl (by decide) (by omega) (by decide) (by decide) (by decide) rfl (show Mi.2.2 16 0 = some 17 by rw [i3 16 (by decide)]; exact p1) ?_
    refine fm_aload_n hc d_Wi_remove_51 rfl rfl ?_
    refine fm_getI (k := 1) hc K_Wi d_Wi_remove_52 q_84 rfl (by decide) (by omega) (by decide) (by decide) (by decide) rfl ?_
    refine fm_top (congrArg Value.int (show Mi.1 16 1 = nI (ms.length - 1) from hct)) ?_
    refine fm_aload_n hc d_Wi_remove_55 rfl rfl ?_
    refine fm_getR (k := 2) (q := sp) hc K_Wi d_Wi_remove_56 q_86 rfl (by decide) (by omega) (by decide) (by decide) (by decide) rfl (by rw [i3 16 (by decide)]; exact hps) ?_
    refine fm_aast (r := ("AgentNet$Message", F_Ms, 8)) (q := sp) (j := ms.length - 1) (len := 20) (ki := 122) (ci := 9) hc 6 d_Wi_remove_59 (by decide) (by omega) (by decide) (by decide) rfl (by omega) (by decide) (by omega) (by omega) hS.2.2.2.1 (by decide) rfl ?_
    refine fm_aload_n hc d_Wi_remove_60 rfl rfl ?_
    refine fm_aload_n hc d_Wi_remove_61 rfl rfl ?_
    refine fm_putR (k := 2) (v := q) hc K_Wi d_Wi_remove_62 q_86 rfl (by decide) (by omega) (by decide) (by decide) (by decide) rfl rfl rfl rfl ?_
    refine fm_aload_n hc d_Wi_remove_65 rfl rfl ?_
    exact fm_aret hc hr d_Wi_remove_66 (Nat.le_refl _) (Nat.le_refl _) ⟨by rw [hq], rfl, hP9, hW9, hcG_of (x1 _ (by omega)) (x1 _ (by omega)) (h.2.2 k m0 hk), i2, x1, x2⟩
