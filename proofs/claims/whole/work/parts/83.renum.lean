/-! NUMBERING: renumber -/
section FMI
variable {p : Program} {l : Launch} {e : Env} {R : Room} {s : State} {m : MethodId} {args : Array Value} {below : List Frame} {meth : Method} {c : Code} {Q : State → Prop}
variable {lay : Nat → Nat × Nat} {nf : Nat → Nat} {fk : Nat → Nat → Nat} {cl : List vw_C} {b : Nat} {x : Nat → Nat} {D : va_G} {dA : Nat → ClassId} {nL : Nat} {cc : ByteArray} {own : String} {Ts : List Cond} {tys : List (ClassId × FieldType)}
variable {pc : Nat} {st : List Value} {n : Nat} {z : Nat × Nat}
/-- a loop whose memory changes under an invariant -/
theorem fm_loopI (N : Nat) (lv : Nat → List (Nat × Value)) (I : Nat → fm_M → Prop) (step : ∀ k M, k < N → I k M → (∀ M', I (k + 1) M' → fm_G p l e R s m args below meth c Q lay nf fk cl b x D dA nL pc (lv (k + 1)) st n M' z) → fm_G p l e R s m args below meth c Q lay nf fk cl b x D dA nL pc (lv k) st n M z) (fin : ∀ M, I N M → fm_G p l e R s m args below meth c Q lay nf fk cl b x D dA nL pc (lv N) st n M z) {M : fm_M} (h0 : I 0 M) : fm_G p l e R s m args below meth c Q lay nf fk cl b x D dA nL pc (lv 0) st n M z := by
  have key : ∀ d k M, k + d = N → I k M → fm_G p l e R s m args below meth c Q lay nf fk cl b x D dA nL pc (lv k) st n M z := by
    intro d
    induction d with
    | zero => intro k M hk hI; obtain rfl : k = N := by omega
              exact fin M hI
    | succ d ih => intro k M hk hI; exact step k M (by omega) hI (fun M' h' => ih (k + 1) M' (by omega) h')
  exact key N 0 M (by omega) h0
end FMI
theorem seq_endP {np : Nat} {f : Nat → bf_V × bf_V} {o0 : List Nat} (h8 : np ≤ 8) (hn : o0.Nodup) (ho : ∀ a ∈ o0, a < np) (hf : ∀ a, a < np → bf_in (fun k => k < np) (f a).1 ∧ bf_in (fun k => k < np) (f a).2) : (bf_seq f o0 9).length ≤ np ∧ bf_seq f o0 (bf_seq f o0 9).length = bf_seq f o0 9 ∧ ∀ k, k < (bf_seq f o0 9).length → k < (bf_seq f o0 k).length := by
  have hk8 : ∀ k, (bf_seq f o0 k).length ≤ np := fun k => few (seq_nodup hn k) (seq_in ho hf k)
  have hL := hk8 9
  have hmono : (bf_seq f o0 (bf_seq f o0 9).length).length ≤ (bf_seq f o0 9).length := by
    have := pre_len (seq_pres f o0 (bf_seq f o0 9).length (9 - (bf_seq f o0 9).length))
    rwa [show (bf_seq f o0 9).length + (9 - (bf_seq f o0 9).length) = 9 by omega] at this
  refine ⟨hL, ?_, fun k hk => ?_⟩
  · have := seq_stop hmono (9 - (bf_seq f o0 9).length)
    rw [show (bf_seq f o0 9).length + (9 - (bf_seq f o0 9).length) = 9 by omega] at this
    exact this.symm
  · refine Nat.lt_of_not_le fun g => ?_
    have := seq_stop g (9 - k)
    rw [show k + (9 - k) = 9 by omega] at this
    rw [this] at hk
    omega
theorem in_le {n m : Nat} (h : n ≤ m) {v : bf_V} (hv : bf_in (fun k => k < n) v) : bf_in (fun k => k < m) v := by
  cases v with
  | inl y => trivial
  | inr k => exact Nat.lt_of_lt_of_le hv h
/-- behind the numbering of a traveller's pairs -/
def rn_P (tr : Nat) (stk : List bf_V) (f : Nat → bf_V × bf_V) (ord : List Nat) (M M' : fm_M) : Prop := M'.1 tr 9 = nI ord.length ∧ (∀ j v, stk[j]? = some v → M'.2.1 (tr + 1) j = e64 (bf_ren ord v)) ∧ (∀ j q, ord[j]? = some q → M'.2.1 (tr + 2) j = e64 (bf_ren ord (f q).1) ∧ M'.2.1 (tr + 3) j = e64 (bf_ren ord (f q).2)) ∧ M'.2.2 = M.2.2 ∧ (∀ o k, o ≠ 61 → o ≠ 62 → o ≠ 63 → ¬ (o = tr ∧ k = 9) → M'.1 o k = M.1 o k) ∧ (∀ o, o ≠ tr + 1 → o ≠ tr + 2 → o ≠ tr + 3 → o ≠ 64 → o ≠ 65 → M'.2.1 o = M.2.1 o)
theorem m_fill_at {M : fm_M} {o len j : Nat} {v : Int32} (h : j < len) : (m_fill M o len v).1 o j = v := by simp [m_fill, va_up, h]
theorem m_fill_oth {M : fm_M} {o len q j : Nat} {v : Int32} (h : q ≠ o) : (m_fill M o len v).1 q j = M.1 q j := by simp [m_fill, va_up, h]
theorem c_renum0 {l : Launch} {b : Nat} {x : Nat → Nat} {D : va_G} {dA : Nat → ClassId} {tr n : Nat} {M : fm_M} (hn : 586 ≤ n) (t8 : 70 ≤ tr) (tn : tr < n) (tl : (fm_lay tr).1 = 5) (hq : M.1 tr 9 = nI 0) : Met l y_Nu_renumber (Cond.code y_Nu_renumber b_Nu_renumber 3 none :: fm_T0) ({ frames := 2, cells := 0, slots := 0, locals := 45 }) (fm_Pc fm_lay fm_nf fm_fk fm_cl b x D dA (fm_tys dA) (fm_EX b x) false [.ref 61, .ref tr] n M) (fm_Qc fm_lay fm_nf fm_fk fm_cl b x D dA (fun r n' M' => r = none ∧ n' = n ∧ M' = M)) 0 0 (fm_A b) := by
  refine fm_enter (by decide) (Nat.le_of_ble_eq_true rfl) ?_
  intro p e s m args below meth c9 hc hr hnm hex htg
  refine fm_aload_n hc d_Nu_renumber_0 rfl rfl ?_
  refine fm_getI (k := 9) hc K_Tr d_Nu_renumber_1 q_213 rfl (by omega) tn tl (by decide) (by decide) rfl ?_
  refine fm_top (congrArg Value.int hq) ?_
  refine fm_if_ne (tgt := 8) hc d_Nu_renumber_4 rfl (fun g => absurd (by decide) g) (fun _ => ?_)
  exact fm_vret hc hr d_Nu_renumber_7 (Nat.le_refl _) (Nat.le_refl _) ⟨rfl, rfl, rfl⟩
theorem c_renum {l : Launch} {b : Nat} {x : Nat → Nat} {D : va_G} {dA : Nat → ClassId} {tr np n : Nat} {stk : List bf_V} {f : Nat → bf_V × bf_V} {M : fm_M} (hn : 586 ≤ n) (t8 : 70 ≤ tr) (tn : tr < n) (t1n : tr + 1 < n) (t2n : tr + 2 < n) (t3n : tr + 3 < n) (tl : (fm_lay tr).1 = 5) (tl1 : fm_lay (tr + 1) = (110, 6)) (tl2 : fm_lay (tr + 2) = (110, 8)) (tl3 : fm_lay (tr + 3) = (110, 8)) (ht1 : M.2.2 tr 10 = some (tr + 1)) (ht2 : M.2.2 tr 11 = some (tr + 2)) (ht3 : M.2.2 tr 12 = some (tr + 3)) (hN : fm_NP M) (hd : M.1 tr 8 = nI stk.length) (hd6 : stk.length ≤ 6) (hq : M.1 tr 9 = nI np) (hq0 : 0 < np) (hq8 : np ≤ 8) (hs : ∀ k v, stk[k]? = some v → M.2.1 (tr + 1) k = e64 v) (hf : ∀ k, k < np → M.2.1 (tr + 2) k = e64 (f k).1 ∧ M.2.1 (tr + 3) k = e64 (f k).2) (is : ∀ v ∈ stk, bf_in (fun k => k < np) v) (iff : ∀ a, a < np → bf_in (fun k => k < np) (f a).1 ∧ bf_in (fun k => k < np) (f a).2) : Met l y_Nu_renumber (Cond.code y_Nu_renumber b_Nu_renumber 3 none :: fm_T0) ({ frames := 2, cells := 0, slots := 0, locals := 45 }) (fm_Pc fm_lay fm_nf fm_fk fm_cl b x D dA (fm_tys dA) (fm_EX b x) false [.ref 61, .ref tr] n M) (fm_Qc fm_lay fm_nf fm_fk fm_cl b x D dA (fun r n' M' => r = none ∧ n' = n ∧ rn_P tr stk f (bf_seq f (stk.foldl bf_see []) 9) M M')) 0 0 (fm_A b) := by
  refine fm_enter (by decide) (Nat.le_of_ble_eq_true rfl) ?_
  intro p e s m args below meth c9 hc hr hnm hex htg
  have ond : (stk.foldl bf_see []).Nodup := fold_nodup stk [] (by simp)
  have oin : ∀ a ∈ stk.foldl bf_see [], a < np := bf_fold_in stk [] (fun a h => nomatch h) is
  obtain ⟨hL8, hLe, hLk⟩ := seq_endP (f := f) hq8 ond oin iff
  have sin : ∀ k, ∀ a ∈ bf_seq f (stk.foldl bf_see []) k, a < np := seq_in oin iff
  have snd : ∀ k, (bf_seq f (stk.foldl bf_see []) k).Nodup := seq_nodup ond
  generalize hORD : bf_seq f (stk.foldl bf_see []) 9 = ORD at hL8 hLe hLk ⊢
  have spre : ∀ k, k ≤ 9 → bf_pre (bf_seq f (stk.foldl bf_see []) k) ORD := fun k hk => by
    have h := seq_pres f (stk.foldl bf_see []) k (9 - k)
    rw [show k + (9 - k) = 9 by omega, hORD] at h
    exact h
  refine fm_aload_n hc d_Nu_renumber_0 rfl rfl ?_
  refine fm_getI (k := 9) hc K_Tr d_Nu_renumber_1 q_213 rfl (by omega) tn tl (by decide) (by decide) rfl ?_
  refine fm_top (congrArg Value.int hq) ?_
  refine fm_if_ne (tgt := 8) hc d_Nu_renumber_4 rfl (fun _ => ?_) (fun g => absurd g (fun g => hnno (a := np) (c := 0) (by omega) (by omega) (by omega) g))
  refine fm_aload_n hc d_Nu_renumber_8 rfl rfl ?_
  refine fm_getR (k := 0) (q := 62) hc K_Nu d_Nu_renumber_9 q_106 rfl (by decide) (by omega) (by decide) (by decide) (by decide) rfl hN.2.1 ?_
  refine fm_iconst (v := (-1)) hc d_Nu_renumber_12 rfl ?_
  refine fm_callS (av := [.ref 62, .int ((-1))]) (rest := []) (y := y_Ja_fill) (bytes := b_Ja_fill) hc fm_T0_good (fm_EX_st b x) hex q_303 q_12 q_663 q_302 pd_Ja_fill (c_Ja_fill (len := 8) (by decide) (by omega) (by decide) (by decide)) ⟨rfl, rfl, Nat.le_of_ble_eq_true rfl, Nat.le_of_ble_eq_true rfl⟩ ⟨Nat.le_of_ble_eq_true rfl, Nat.le_of_ble_eq_true rfl⟩ d_Nu_renumber_13 (Nat.le_of_ble_eq_true rfl) (fun r n2 M2 hp => ?_)
  obtain ⟨rfl, hq1, hq2⟩ := hp
  replace hq1 := hq1.symm
  replace hq2 := hq2.symm
  subst hq1 hq2
  refine fm_cnt (z' := (0, 0)) rfl (fm_st (st' := []) rfl ?_)
  refine fm_aload_n hc d_Nu_renumber_16 rfl rfl ?_
  refine fm_iconst (v := nI 0) hc d_Nu_renumber_17 rfl ?_
  refine fm_putI (k := 4) (v := nI 0) hc K_Nu d_Nu_renumber_18 q_110 rfl (by decide) (by omega) (by decide) (by decide) (by decide) rfl rfl rfl rfl ?_
  refine fm_iconst (v := nI 0) hc d_Nu_renumber_21 rfl ?_
  refine fm_istore_n (lv' := [(2, .int (nI 0)), (0, .ref 61), (1, .ref tr)]) hc d_Nu_renumber_22 rfl (by decide) rfl ?_
  refine fm_loopI (N := stk.length) (lv := fun k => [(2, .int (nI k)), (0, .ref 61), (1, .ref tr)]) (I := fun k M' => nu_H M' ((stk.take k).foldl bf_see []) ∧ (∀ j v, stk[j]? = some v → M'.2.1 (tr + 1) j = if j < k then e64 (bf_ren ORD v) else e64 v) ∧ M'.2.2 = M.2.2 ∧ (∀ o, o ≠ 61 → o ≠ 62 → o ≠ 63 → M'.1 o = M.1 o) ∧ (∀ o, o ≠ tr + 1 → M'.2.1 o = M.2.1 o)) (fun k Mk hk hI ih => ?_) (fun Mk hI => ?_) ?_
  · obtain ⟨i1, i2, i3, i4, i5⟩ := hI
    obtain ⟨v, hv⟩ : ∃ v, stk[k]? = some v := ⟨stk[k], List.getElem?_eq_getElem hk⟩
    have hvm : v ∈ stk := List.mem_of_getElem? hv
    have hvk : Mk.2.1 (tr + 1) k = e64 v := by rw [i2 k v hv, if_neg (Nat.lt_irrefl k)]
    have hNk : fm_NP Mk := by
      unfold fm_NP
      rw [i3]
      exact hN
    have hdk : Mk.1 tr 8 = nI stk.length := by rw [i4 tr (by omega) (by omega) (by omega)]; exact hd
    have htn : ((stk.take k).foldl bf_see []).Nodup := fold_nodup _ [] (by simp)
    have hti : ∀ a ∈ (stk.take k).foldl bf_see [], a < 8 := fun a ha => Nat.lt_of_lt_of_le (oin a (pre_mem (fold_take_pre stk k) ha)) hq8
    refine fm_iload_n hc d_Nu_renumber_23 rfl rfl ?_
    refine fm_aload_n hc d_Nu_renumber_24 rfl rfl ?_
    refine fm_getI (k := 8) hc K_Tr d_Nu_renumber_25 q_209 rfl (by omega) tn tl (by decide) (by decide) rfl ?_
    refine fm_top (congrArg Value.int hdk) ?_
    refine fm_icmp_ge (tgt := 53) hc d_Nu_renumber_28 rfl (fun g => absurd g (hnle (a := stk.length) (c := k) hk (by omega))) (fun _ => ?_)
    refine fm_aload_n hc d_Nu_renumber_31 rfl rfl ?_
    refine fm_getR (k := 10) (q := tr + 1) hc K_Tr d_Nu_renumber_32 q_217 rfl (by omega) tn tl (by decide) (by decide) rfl (by rw [i3]; exact ht1) ?_
    refine fm_iload_n hc d_Nu_renumber_35 rfl rfl ?_
    refine fm_aload_n hc d_Nu_renumber_36 rfl rfl ?_
    refine fm_aload_n hc d_Nu_renumber_37 rfl rfl ?_
    refine fm_getR (k := 10) (q := tr + 1) hc K_Tr d_Nu_renumber_38 q_217 rfl (by omega) tn tl (by decide) (by decide) rfl (by rw [i3]; exact ht1) ?_
    refine fm_iload_n hc d_Nu_renumber_41 rfl rfl ?_
    refine fm_lald (j := k) (len := 6) hc 3 d_Nu_renumber_42 (by omega) t1n tl1 rfl (by omega) (by decide) ?_
    refine fm_top (congrArg Value.long hvk) ?_
    refine fm_callV (av := [.long (e64 v)]) (rest := [.int (nI k), .ref (tr + 1)]) (ob := 61) (ci := 3) (r0 := ("AgentNet$Numbering", F_Nu, 5)) (y := y_Nu_renamed) (bytes := b_Nu_renamed) hc fm_T0_good (fm_EX_st b x) hex q_667 q_5 q_664 q_666 qs_Nu_renamed pd_Nu_renamed (by decide) (by omega) (by decide) (by decide) rfl rfl (c_ren (ord := (stk.take k).foldl bf_see []) (v := v) hn hNk i1 (in_le hq8 (is v hvm)) htn hti) ⟨rfl, rfl, Nat.le_of_ble_eq_true rfl, Nat.le_of_ble_eq_true rfl⟩ ⟨Nat.le_of_ble_eq_true rfl, Nat.le_of_ble_eq_true rfl⟩ d_Nu_renumber_43 (Nat.le_of_ble_eq_true rfl) (fun r n2 M2 hp => ?_)
    obtain ⟨rfl, hq1, hH2, hfr⟩ := hp
    replace hq1 := hq1.symm
    subst hq1
    refine fm_cnt (z' := (0, 0)) rfl (fm_st (st' := [.long (e64 (bf_ren (bf_see ((stk.take k).foldl bf_see []) v) v)), .int (nI k), .ref (tr + 1)]) rfl ?_)
    refine fm_last (j := k) (len := 6) (v := e64 (bf_ren (bf_see ((stk.take k).foldl bf_see []) v) v)) hc 3 d_Nu_renumber_46 (by omega) t1n tl1 rfl (by omega) (by decide) ?_
    refine fm_iinc (v := nI (k + 1)) (lv' := [(2, .int (nI (k + 1))), (0, .ref 61), (1, .ref tr)]) hc d_Nu_renumber_47 rfl (nI_1 k) (by decide) rfl ?_
    refine fm_goto (tgt := 23) hc d_Nu_renumber_50 rfl ?_
    refine ih _ ⟨?_, ?_, ?_, ?_, ?_⟩
    · rw [fold_take hv]
      exact hH2
    · intro j u hu
      have eo : bf_ren (bf_see ((stk.take k).foldl bf_see []) v) v = bf_ren ORD v := (ren_pre (pre_tr (by rw [← fold_take hv]; exact fold_take_pre stk (k + 1)) (spre 0 (by omega))) bf_see_has).symm
      by_cases hjk : j = k
      · subst hjk
        rw [hv] at hu
        cases hu
        rw [p2_same, if_pos (Nat.lt_succ_self j), eo]
      · rw [p2_at hjk, show M2.2.1 = Mk.2.1 by rw [hfr.1], i2 j u hu]
        by_cases hlt : j < k
        · rw [if_pos hlt, if_pos (by omega)]
        · rw [if_neg hlt, if_neg (by omega)]
    · show M2.2.2 = M.2.2
      rw [hfr.1]
      exact i3
    · intro o h1 h2 h3
      exact (hfr.2 o h1 h2 h3).trans (i4 o h1 h2 h3)
    · intro o h1
      have e9 : (fm_put2 M2 (tr + 1) k (e64 (bf_ren (bf_see ((stk.take k).foldl bf_see []) v) v))).2.1 o = M2.2.1 o := by simp [fm_put2, va_up, h1]
      rw [e9, show M2.2.1 = Mk.2.1 by rw [hfr.1]]
      exact i5 o h1
  · obtain ⟨i1, i2, i3, i4, i5⟩ := hI
    rw [List.take_length] at i1
    have hdk : Mk.1 tr 8 = nI stk.length := by rw [i4 tr (by omega) (by omega) (by omega)]; exact hd
    refine fm_iload_n hc d_Nu_renumber_23 rfl rfl ?_
    refine fm_aload_n hc d_Nu_renumber_24 rfl rfl ?_
    refine fm_getI (k := 8) hc K_Tr d_Nu_renumber_25 q_209 rfl (by omega) tn tl (by decide) (by decide) rfl ?_
    refine fm_top (congrArg Value.int hdk) ?_
    refine fm_icmp_ge (tgt := 53) hc d_Nu_renumber_28 rfl (fun _ => ?_) (fun g => absurd (nI_le (Nat.le_refl _) (by omega)) g)
    refine fm_iconst (v := nI 0) hc d_Nu_renumber_53 rfl ?_
    refine fm_istore_n (lv' := [(2, .int (nI 0)), (0, .ref 61), (1, .ref tr)]) hc d_Nu_renumber_54 rfl (by decide) rfl ?_
    refine fm_loopI (N := ORD.length) (lv := fun k => [(2, .int (nI k)), (0, .ref 61), (1, .ref tr)]) (I := fun k M' => nu_H M' (bf_seq f (stk.foldl bf_see []) k) ∧ (∀ j v, stk[j]? = some v → M'.2.1 (tr + 1) j = e64 (bf_ren ORD v)) ∧ (∀ j q, j < k → ORD[j]? = some q → M'.2.1 64 j = e64 (bf_ren ORD (f q).1) ∧ M'.2.1 65 j = e64 (bf_ren ORD (f q).2)) ∧ M'.2.2 = M.2.2 ∧ (∀ o, o ≠ 61 → o ≠ 62 → o ≠ 63 → M'.1 o = M.1 o) ∧ (∀ o, o ≠ tr + 1 → o ≠ 64 → o ≠ 65 → M'.2.1 o = M.2.1 o)) (fun k Mk hk hI ih => ?_) (fun Mk hI => ?_) ?_
    · obtain ⟨j1, j2, j3, j4, j5, j6⟩ := hI
      have hkl := hLk k hk
      obtain ⟨q, hqk⟩ : ∃ q, (bf_seq f (stk.foldl bf_see []) k)[k]? = some q := ⟨(bf_seq f (stk.foldl bf_see []) k)[k], List.getElem?_eq_getElem hkl⟩
      have hqn : q < np := sin k q (List.mem_of_getElem? hqk)
      have hql : (bf_seq f (stk.foldl bf_see []) k).length ≤ 8 := Nat.le_trans (few (snd k) (sin k)) hq8
      have hcnt : Mk.1 61 4 = nI (bf_seq f (stk.foldl bf_see []) k).length := j1.1
      have hold : Mk.1 63 k = nI q := j1.2.1 k q hqk
      have hf1 : Mk.2.1 (tr + 2) q = e64 (f q).1 := by rw [j6 (tr + 2) (by omega) (by omega) (by omega)]; exact (hf q hqn).1
      have hNk : fm_NP Mk := by
        unfold fm_NP
        rw [j4]
        exact hN
      have sin8 : ∀ a ∈ (bf_seq f (stk.foldl bf_see []) k), a < 8 := fun a ha => Nat.lt_of_lt_of_le (sin k a ha) hq8
      have iff8 := iff q hqn
      refine fm_iload_n hc d_Nu_renumber_55 rfl rfl ?_
      refine fm_bipush (v := nI 8) hc d_Nu_renumber_56 rfl ?_
      refine fm_icmp_ge (tgt := 117) hc d_Nu_renumber_58 rfl (fun g => absurd g (hnle (a := 8) (c := k) (by omega) (by omega))) (fun _ => ?_)
      refine fm_iload_n hc d_Nu_renumber_61 rfl rfl ?_
      refine fm_aload_n hc d_Nu_renumber_62 rfl rfl ?_
      refine fm_getI (k := 4) hc K_Nu d_Nu_renumber_63 q_110 rfl (by decide) (by omega) (by decide) (by decide) (by decide) rfl ?_
      refine fm_top (congrArg Value.int hcnt) ?_
      refine fm_icmp_ge (tgt := 117) hc d_Nu_renumber_66 rfl (fun g => absurd g (hnle (a := (bf_seq f (stk.foldl bf_see []) k).length) (c := k) hkl (by omega))) (fun _ => ?_)
      refine fm_aload_n hc d_Nu_renumber_69 rfl rfl ?_
      refine fm_getR (k := 2) (q := 64) hc K_Nu d_Nu_renumber_70 q_108 rfl (by decide) (by omega) (by decide) (by decide) (by decide) rfl (by rw [j4]; exact hN.2.2.2.1) ?_
      refine fm_iload_n hc d_Nu_renumber_73 rfl rfl ?_
      refine fm_aload_n hc d_Nu_renumber_74 rfl rfl ?_
      refine fm_aload_n hc d_Nu_renumber_75 rfl rfl ?_
      refine fm_getR (k := 11) (q := tr + 2) hc K_Tr d_Nu_renumber_76 q_221 rfl (by omega) tn tl (by decide) (by decide) rfl (by rw [j4]; exact ht2) ?_
      refine fm_aload_n hc d_Nu_renumber_79 rfl rfl ?_
      refine fm_getR (k := 1) (q := 63) hc K_Nu d_Nu_renumber_80 q_107 rfl (by decide) (by omega) (by decide) (by decide) (by decide) rfl (by rw [j4]; exact hN.2.2.1) ?_
      refine fm_iload_n hc d_Nu_renumber_83 rfl rfl ?_
      refine fm_iald (j := k) (len := 8) hc 0 d_Nu_renumber_84 (by decide) (by omega) (by decide) rfl (by omega) (by decide) ?_
      refine fm_top (congrArg Value.int hold) ?_
      refine fm_lald (j := q) (len := 8) hc 3 d_Nu_renumber_85 (by omega) t2n tl2 rfl (by omega) (by decide) ?_
      refine fm_top (congrArg Value.long hf1) ?_
      refine fm_callV (av := [.long (e64 (f q).1)]) (rest := [.int (nI k), .ref 64]) (ob := 61) (ci := 3) (r0 := ("AgentNet$Numbering", F_Nu, 5)) (y := y_Nu_renamed) (bytes := b_Nu_renamed) hc fm_T0_good (fm_EX_st b x) hex q_667 q_5 q_664 q_666 qs_Nu_renamed pd_Nu_renamed (by decide) (by omega) (by decide) (by decide) rfl rfl (c_ren (ord := (bf_seq f (stk.foldl bf_see []) k)) (v := (f q).1) hn hNk j1 (in_le hq8 iff8.1) (snd k) sin8) ⟨rfl, rfl, Nat.le_of_ble_eq_true rfl, Nat.le_of_ble_eq_true rfl⟩ ⟨Nat.le_of_ble_eq_true rfl, Nat.le_of_ble_eq_true rfl⟩ d_Nu_renumber_86 (Nat.le_of_ble_eq_true rfl) (fun r n2 M2 hp => ?_)
      obtain ⟨rfl, hq1, hHa, hfa⟩ := hp
      replace hq1 := hq1.symm
      subst hq1
      revert hHa hfa
      generalize M2 = Ma
      intro hHa hfa
      have e22a : (fm_put2 Ma 64 k (e64 (bf_ren (bf_see (bf_seq f (stk.foldl bf_see []) k) (f q).1) (f q).1))).2.2 = M.2.2 := by
        show Ma.2.2 = M.2.2
        rw [hfa.1]
        exact j4
      have holda : (fm_put2 Ma 64 k (e64 (bf_ren (bf_see (bf_seq f (stk.foldl bf_see []) k) (f q).1) (f q).1))).1 63 k = nI q := hHa.2.1 k q (pre_get (see_pre _ _) hqk)
      have hf2 : (fm_put2 Ma 64 k (e64 (bf_ren (bf_see (bf_seq f (stk.foldl bf_see []) k) (f q).1) (f q).1))).2.1 (tr + 3) q = e64 (f q).2 := by
        rw [p2_other (by omega), show Ma.2.1 = Mk.2.1 by rw [hfa.1], j6 (tr + 3) (by omega) (by omega) (by omega)]
        exact (hf q hqn).2
      have hNa : fm_NP (fm_put2 Ma 64 k (e64 (bf_ren (bf_see (bf_seq f (stk.foldl bf_see []) k) (f q).1) (f q).1))) := by
        unfold fm_NP
        rw [e22a]
        exact hN
      have hHa2 : nu_H (fm_put2 Ma 64 k (e64 (bf_ren (bf_see (bf_seq f (stk.foldl bf_see []) k) (f q).1) (f q).1))) (bf_see (bf_seq f (stk.foldl bf_see []) k) (f q).1) := hHa
      refine fm_cnt (z' := (0, 0)) rfl (fm_st (st' := [.long (e64 (bf_ren (bf_see (bf_seq f (stk.foldl bf_see []) k) (f q).1) (f q).1)), .int (nI k), .ref 64]) rfl ?_)
      refine fm_last (j := k) (len := 8) (v := e64 (bf_ren (bf_see (bf_seq f (stk.foldl bf_see []) k) (f q).1) (f q).1)) hc 3 d_Nu_renumber_89 (by decide) (by omega) (by decide) rfl (by omega) (by decide) ?_
      refine fm_aload_n hc d_Nu_renumber_90 rfl rfl ?_
      refine fm_getR (k := 3) (q := 65) hc K_Nu d_Nu_renumber_91 q_109 rfl (by decide) (by omega) (by decide) (by decide) (by decide) rfl (by rw [e22a]; exact hN.2.2.2.2) ?_
      refine fm_iload_n hc d_Nu_renumber_94 rfl rfl ?_
      refine fm_aload_n hc d_Nu_renumber_95 rfl rfl ?_
      refine fm_aload_n hc d_Nu_renumber_96 rfl rfl ?_
      refine fm_getR (k := 12) (q := tr + 3) hc K_Tr d_Nu_renumber_97 q_225 rfl (by omega) tn tl (by decide) (by decide) rfl (by rw [e22a]; exact ht3) ?_
      refine fm_aload_n hc d_Nu_renumber_100 rfl rfl ?_
      refine fm_getR (k := 1) (q := 63) hc K_Nu d_Nu_renumber_101 q_107 rfl (by decide) (by omega) (by decide) (by decide) (by decide) rfl (by rw [e22a]; exact hN.2.2.1) ?_
      refine fm_iload_n hc d_Nu_renumber_104 rfl rfl ?_
      refine fm_iald (j := k) (len := 8) hc 0 d_Nu_renumber_105 (by decide) (by omega) (by decide) rfl (by omega) (by decide) ?_
      refine fm_top (congrArg Value.int holda) ?_
      refine fm_lald (j := q) (len := 8) hc 3 d_Nu_renumber_106 (by omega) t3n tl3 rfl (by omega) (by decide) ?_
      refine fm_top (congrArg Value.long hf2) ?_
      refine fm_callV (av := [.long (e64 (f q).2)]) (rest := [.int (nI k), .ref 65]) (ob := 61) (ci := 3) (r0 := ("AgentNet$Numbering", F_Nu, 5)) (y := y_Nu_renamed) (bytes := b_Nu_renamed) hc fm_T0_good (fm_EX_st b x) hex q_667 q_5 q_664 q_666 qs_Nu_renamed pd_Nu_renamed (by decide) (by omega) (by decide) (by decide) rfl rfl (c_ren (M := fm_put2 Ma 64 k (e64 (bf_ren (bf_see (bf_seq f (stk.foldl bf_see []) k) (f q).1) (f q).1))) (ord := (bf_see (bf_seq f (stk.foldl bf_see []) k) (f q).1)) (v := (f q).2) hn hNa hHa2 (in_le hq8 iff8.2) (bf_see_nodup (snd k)) (bf_see_in sin8 (in_le hq8 iff8.1))) ⟨rfl, rfl, Nat.le_of_ble_eq_true rfl, Nat.le_of_ble_eq_true rfl⟩ ⟨Nat.le_of_ble_eq_true rfl, Nat.le_of_ble_eq_true rfl⟩ d_Nu_renumber_107 (Nat.le_of_ble_eq_true rfl) (fun r n2 M2 hp => ?_)
      obtain ⟨rfl, hq1, hHb, hfb⟩ := hp
      replace hq1 := hq1.symm
      subst hq1
      revert hHb hfb
      generalize M2 = Mb
      intro hHb hfb
      refine fm_cnt (z' := (0, 0)) rfl (fm_st (st' := [.long (e64 (bf_ren (bf_see (bf_see (bf_seq f (stk.foldl bf_see []) k) (f q).1) (f q).2) (f q).2)), .int (nI k), .ref 65]) rfl ?_)
      refine fm_last (j := k) (len := 8) (v := e64 (bf_ren (bf_see (bf_see (bf_seq f (stk.foldl bf_see []) k) (f q).1) (f q).2) (f q).2)) hc 3 d_Nu_renumber_110 (by decide) (by omega) (by decide) rfl (by omega) (by decide) ?_
      refine fm_iinc (v := nI (k + 1)) (lv' := [(2, .int (nI (k + 1))), (0, .ref 61), (1, .ref tr)]) hc d_Nu_renumber_111 rfl (nI_1 k) (by decide) rfl ?_
      refine fm_goto (tgt := 55) hc d_Nu_renumber_114 rfl ?_
      have esq : (bf_seq f (stk.foldl bf_see []) (k + 1)) = (bf_see (bf_see (bf_seq f (stk.foldl bf_see []) k) (f q).1) (f q).2) := seq_some hqk
      have hOq : ORD[k]? = some q := pre_get (spre k (by omega)) hqk
      have p2o : bf_pre (bf_see (bf_see (bf_seq f (stk.foldl bf_see []) k) (f q).1) (f q).2) ORD := by rw [← esq]; exact spre (k + 1) (by omega)
      have p1o : bf_pre (bf_see (bf_seq f (stk.foldl bf_see []) k) (f q).1) ORD := pre_tr (see_pre _ _) p2o
      have eb : Mb.2.1 = (fm_put2 Ma 64 k (e64 (bf_ren (bf_see (bf_seq f (stk.foldl bf_see []) k) (f q).1) (f q).1))).2.1 := by rw [hfb.1]
      have ea : Ma.2.1 = Mk.2.1 := by rw [hfa.1]
      refine ih _ ⟨?_, ?_, ?_, ?_, ?_, ?_⟩
      · rw [esq]
        exact hHb
      · intro j u hu
        rw [p2_other (by omega), eb, p2_other (by omega), ea]
        exact j2 j u hu
      · intro j r hj hr
        by_cases hjk : j = k
        · subst hjk
          rw [hOq] at hr
          cases hr
          refine ⟨?_, ?_⟩
          · rw [p2_other (by decide), eb, p2_same, ren_pre p1o bf_see_has]
          · rw [p2_same, ren_pre p2o bf_see_has]
        · have hjl : j < k := by omega
          refine ⟨?_, ?_⟩
          · rw [p2_other (by decide), eb, p2_at hjk, ea]
            exact (j3 j r hjl hr).1
          · rw [p2_at hjk, eb, p2_other (by decide), ea]
            exact (j3 j r hjl hr).2
      · show Mb.2.2 = M.2.2
        rw [hfb.1]
        exact e22a
      · intro o h1 h2 h3
        exact (hfb.2 o h1 h2 h3).trans ((hfa.2 o h1 h2 h3).trans (j5 o h1 h2 h3))
      · intro o h1 h2 h3
        have e9 : (fm_put2 Mb 65 k (e64 (bf_ren (bf_see (bf_see (bf_seq f (stk.foldl bf_see []) k) (f q).1) (f q).2) (f q).2))).2.1 o = Mb.2.1 o := by simp [fm_put2, va_up, h3]
        have e8 : (fm_put2 Ma 64 k (e64 (bf_ren (bf_see (bf_seq f (stk.foldl bf_see []) k) (f q).1) (f q).1))).2.1 o = Ma.2.1 o := by simp [fm_put2, va_up, h2]
        rw [e9, eb, e8, ea]
        exact j6 o h1 h2 h3
    · obtain ⟨j1, j2, j3, j4, j5, j6⟩ := hI
      rw [hLe] at j1
      have hcnt : Mk.1 61 4 = nI ORD.length := j1.1
      have fin : ∀ k, fm_G p l e (headSpec (Cond.code y_Nu_renumber b_Nu_renumber 3 none :: fm_T0) ({ frames := 2, cells := 0, slots := 0, locals := 45 })).room s m args below meth c9 (MQ below (fm_Qc fm_lay fm_nf fm_fk fm_cl b x D dA (fun r n' M' => r = none ∧ n' = n ∧ rn_P tr stk f ORD M M')) args s 0 0 (fm_A b)) fm_lay fm_nf fm_fk fm_cl b x D dA 3 117 [(2, .int (nI k)), (0, .ref 61), (1, .ref tr)] [] n Mk (0, 0) := by
        intro k
        refine fm_aload_n hc d_Nu_renumber_117 rfl rfl ?_
        refine fm_getR (k := 2) (q := 64) hc K_Nu d_Nu_renumber_118 q_108 rfl (by decide) (by omega) (by decide) (by decide) (by decide) rfl (show Mk.2.2 61 2 = some 64 by rw [j4]; exact hN.2.2.2.1) ?_
        refine fm_iconst (v := nI 0) hc d_Nu_renumber_121 rfl ?_
        refine fm_aload_n hc d_Nu_renumber_122 rfl rfl ?_
        refine fm_getR (k := 11) (q := tr + 2) hc K_Tr d_Nu_renumber_123 q_221 rfl (by omega) tn tl (by decide) (by decide) rfl (show Mk.2.2 tr 11 = some (tr + 2) by rw [j4]; exact ht2) ?_
        refine fm_iconst (v := nI 0) hc d_Nu_renumber_126 rfl ?_
        refine fm_aload_n hc d_Nu_renumber_127 rfl rfl ?_
        refine fm_getI (k := 4) hc K_Nu d_Nu_renumber_128 q_110 rfl (by decide) (by omega) (by decide) (by decide) (by decide) rfl ?_
        refine fm_top (congrArg Value.int hcnt) ?_
        refine fm_cpyL (o0 := 64) (o1 := tr + 2) (l0 := 8) (l1 := 8) (sp := 0) (dp := 0) (k := ORD.length) hc 3 q_670 q_586 q_585 q_20 d_Nu_renumber_131 (by decide) (by omega) (by decide) (by omega) t2n tl2 rfl (by omega) (by omega) (by decide) (by decide) (Nat.le_of_ble_eq_true rfl) (Nat.le_of_ble_eq_true rfl) ?_
        refine fm_aload_n hc d_Nu_renumber_134 rfl rfl ?_
        refine fm_getR (k := 3) (q := 65) hc K_Nu d_Nu_renumber_135 q_109 rfl (by decide) (by omega) (by decide) (by decide) (by decide) rfl (show Mk.2.2 61 3 = some 65 by rw [j4]; exact hN.2.2.2.2) ?_
        refine fm_iconst (v := nI 0) hc d_Nu_renumber_138 rfl ?_
        refine fm_aload_n hc d_Nu_renumber_139 rfl rfl ?_
        refine fm_getR (k := 12) (q := tr + 3) hc K_Tr d_Nu_renumber_140 q_225 rfl (by omega) tn tl (by decide) (by decide) rfl (show Mk.2.2 tr 12 = some (tr + 3) by rw [j4]; exact ht3) ?_
        refine fm_iconst (v := nI 0) hc d_Nu_renumber_143 rfl ?_
        refine fm_aload_n hc d_Nu_renumber_144 rfl rfl ?_
        refine fm_getI (k := 4) hc K_Nu d_Nu_renumber_145 q_110 rfl (by decide) (by omega) (by decide) (by decide) (by decide) rfl ?_
        refine fm_top (congrArg Value.int hcnt) ?_
        refine fm_cpyL (o0 := 65) (o1 := tr + 3) (l0 := 8) (l1 := 8) (sp := 0) (dp := 0) (k := ORD.length) hc 3 q_670 q_586 q_585 q_20 d_Nu_renumber_148 (by decide) (by omega) (by decide) (by omega) t3n tl3 rfl (by omega) (by omega) (by decide) (by decide) (Nat.le_of_ble_eq_true rfl) (Nat.le_of_ble_eq_true rfl) ?_
        refine fm_aload_n hc d_Nu_renumber_151 rfl rfl ?_
        refine fm_aload_n hc d_Nu_renumber_152 rfl rfl ?_
        refine fm_getI (k := 4) hc K_Nu d_Nu_renumber_153 q_110 rfl (by decide) (by omega) (by decide) (by decide) (by decide) rfl ?_
        refine fm_top (congrArg Value.int hcnt) ?_
        refine fm_putI (k := 9) (v := nI ORD.length) hc K_Tr d_Nu_renumber_156 q_213 rfl (by omega) tn tl (by decide) (by decide) rfl rfl rfl rfl ?_
        refine fm_vret hc hr d_Nu_renumber_159 (Nat.le_refl _) (Nat.le_refl _) ⟨rfl, rfl, ?_⟩
        refine ⟨?_, ?_, ?_, ?_, ?_, ?_⟩
        · exact p1_same _ _ _ _
        · intro j v hv
          show (fm_cpy2 (fm_cpy2 Mk 64 (tr + 2) 0 0 ORD.length) 65 (tr + 3) 0 0 ORD.length).2.1 (tr + 1) j = _
          have e9 : (fm_cpy2 (fm_cpy2 Mk 64 (tr + 2) 0 0 ORD.length) 65 (tr + 3) 0 0 ORD.length).2.1 (tr + 1) j = Mk.2.1 (tr + 1) j := by simp [fm_cpy2, va_up]
          rw [e9]
          exact j2 j v hv
        · intro j q hq
          have hjl := (List.getElem?_eq_some_iff.mp hq).1
          have h64 : Mk.2.1 64 j = e64 (bf_ren ORD (f q).1) := (j3 j q hjl hq).1
          have h65 : Mk.2.1 65 j = e64 (bf_ren ORD (f q).2) := (j3 j q hjl hq).2
          refine ⟨?_, ?_⟩
          · show (fm_cpy2 (fm_cpy2 Mk 64 (tr + 2) 0 0 ORD.length) 65 (tr + 3) 0 0 ORD.length).2.1 (tr + 2) j = _
            have e9 : (fm_cpy2 (fm_cpy2 Mk 64 (tr + 2) 0 0 ORD.length) 65 (tr + 3) 0 0 ORD.length).2.1 (tr + 2) j = Mk.2.1 64 j := by simp [fm_cpy2, va_up, va_cpy, hjl]
            rw [e9, h64]
          · show (fm_cpy2 (fm_cpy2 Mk 64 (tr + 2) 0 0 ORD.length) 65 (tr + 3) 0 0 ORD.length).2.1 (tr + 3) j = _
            have e9 : (fm_cpy2 (fm_cpy2 Mk 64 (tr + 2) 0 0 ORD.length) 65 (tr + 3) 0 0 ORD.length).2.1 (tr + 3) j = Mk.2.1 65 j := by simp [fm_cpy2, va_up, va_cpy, hjl, show ¬ (65 : Nat) = tr + 2 by omega]
            rw [e9, h65]
        · exact j4
        · intro o k2 h1 h2 h3 h4
          have e9 : (fm_put1 (fm_cpy2 (fm_cpy2 Mk 64 (tr + 2) 0 0 ORD.length) 65 (tr + 3) 0 0 ORD.length) tr 9 (nI ORD.length)).1 o k2 = Mk.1 o k2 := by
            by_cases ho : o = tr
            · subst ho
              exact p1_at (fun g => h4 ⟨rfl, g⟩)
            · exact p1_other ho
          rw [e9, j5 o h1 h2 h3]
        · intro o h1 h2 h3 h4 h5
          have e9 : (fm_put1 (fm_cpy2 (fm_cpy2 Mk 64 (tr + 2) 0 0 ORD.length) 65 (tr + 3) 0 0 ORD.length) tr 9 (nI ORD.length)).2.1 o = Mk.2.1 o := by simp [fm_put1, fm_cpy2, va_up, h2, h3]
          rw [e9]
          exact j6 o h1 h4 h5
      refine fm_iload_n hc d_Nu_renumber_55 rfl rfl ?_
      refine fm_bipush (v := nI 8) hc d_Nu_renumber_56 rfl ?_
      refine fm_icmp_ge (tgt := 117) hc d_Nu_renumber_58 rfl (fun _ => fin _) (fun _ => ?_)
      refine fm_iload_n hc d_Nu_renumber_61 rfl rfl ?_
      refine fm_aload_n hc d_Nu_renumber_62 rfl rfl ?_
      refine fm_getI (k := 4) hc K_Nu d_Nu_renumber_63 q_110 rfl (by decide) (by omega) (by decide) (by decide) (by decide) rfl ?_
      refine fm_top (congrArg Value.int hcnt) ?_
      exact fm_icmp_ge (tgt := 117) hc d_Nu_renumber_66 rfl (fun _ => fin _) (fun g => absurd (nI_le (Nat.le_refl _) (by omega)) g)
    · refine ⟨i1, ?_, fun j q hj => absurd hj (Nat.not_lt_zero j), i3, i4, fun o h1 _ _ => i5 o h1⟩
      intro j v hv
      have hjl := (List.getElem?_eq_some_iff.mp hv).1
      rw [i2 j v hv, if_pos hjl]
  · refine ⟨⟨?_, ?_, ?_⟩, ?_, rfl, ?_, ?_⟩
    · exact p1_same _ _ _ _
    · intro i q hq
      exact absurd hq (by simp)
    · intro q hq
      rw [p1_other (by decide), m_fill_at hq, if_neg (by simp)]
    · intro j v hv
      rw [if_neg (Nat.not_lt_zero j)]
      exact hs j v hv
    · intro o h1 h2 h3
      funext j
      rw [p1_other h1, m_fill_oth h2]
    · intro o _
      rfl
