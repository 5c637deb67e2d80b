
/-! THE REFERENCE: runAlone, expected, expectedOutput -/
section FMT
variable {p : Program} {l : Launch} {e : Env} {R : Room} {s : State} {m : MethodId} {args : Array Value} {below : List Frame} {meth : Method} {c : Code} {Q : State → Prop}
variable {lay : Nat → Nat × Nat} {nf : Nat → Nat} {fk : Nat → Nat → Nat} {cl : List vw_C} {b : Nat} {x : Nat → Nat} {D : va_G} {dA : Nat → ClassId} {nL : Nat}
/-- a place that several ways come to -/
theorem fm_tail {T : Prop} {pc pc1 n n1 : Nat} {lv lv1 : List (Nat × Value)} {st st1 : List Value} {M M1 : fm_M} {z z1 : Nat × Nat} (t : T → fm_G p l e R s m args below meth c Q lay nf fk cl b x D dA nL pc1 lv1 st1 n1 M1 z1) (k : (T → fm_G p l e R s m args below meth c Q lay nf fk cl b x D dA nL pc1 lv1 st1 n1 M1 z1) → fm_G p l e R s m args below meth c Q lay nf fk cl b x D dA nL pc lv st n M z) : fm_G p l e R s m args below meth c Q lay nf fk cl b x D dA nL pc lv st n M z := k t
end FMT
theorem fresh_G {a p0 f : Nat} {M : fm_M} (h1 : M.1 591 a = nI p0) (h2 : M.1 592 a = nI f) : hr_G (m_fresh M 96 a) 96 F_f (ag_new a p0 f) (fun k => k) := by
  refine ⟨fun k k1 k8 hF => ?_, ?_, fun q hq => absurd hq (Nat.not_lt_zero q), fun q r hq => absurd hq (Nat.not_lt_zero q), fun k v hv => by simp [ag_new] at hv, fun k q hq => by simp [ag_new] at hq⟩
  · have h4 := hF.1
    have h6 := hF.2
    unfold m_fresh
    rcases (show k = 1 ∨ k = 2 ∨ k = 3 ∨ k = 5 ∨ k = 7 by omega) with rfl | rfl | rfl | rfl | rfl
    · simp [fm_put1, va_up, ag_new, h1]
    · simp [fm_put1, va_up, ag_new]
    · simp [fm_put1, va_up, ag_new, h2]
    · simp [fm_put1, va_up, ag_new]
    · simp [fm_put1, va_up, ag_new]
      rfl
  · simp [m_fresh, fm_put1, va_up, ag_new]
theorem fresh_W {gi a : Nat} {M : fm_M} : fr_W gi M (m_fresh M gi a) := by
  refine ⟨rfl, fun o j h _ _ _ => ?_, fun _ _ _ _ _ _ => rfl⟩
  have key : ∀ (X : fm_M) (q : Nat) (v : Int32), 605 ≤ q → q ≤ 614 → (fm_put1 X q gi v).1 o j = X.1 o j := fun X q v a b => by
    by_cases e : o = q
    · subst e
      exact p1_at (fun w => h ⟨a, b, w⟩)
    · exact p1_other e
  unfold m_fresh
  rw [key _ _ _ (by decide) (by decide), key _ _ _ (by decide) (by decide), key _ _ _ (by decide) (by decide), key _ _ _ (by decide) (by decide), key _ _ _ (by decide) (by decide), key _ _ _ (by decide) (by decide), key _ _ _ (by decide) (by decide), key _ _ _ (by decide) (by decide), key _ _ _ (by decide) (by decide)]
theorem do_7 {c y he : Nat} {tbl : Nat → Int32} {N : Nat → Nat} {s : List bf_V} {p : List (bf_V × bf_V)} {lo up : bf_V} (h : (ag_do c y tbl he N s p lo up).1 ≠ 3) : (ag_do c y tbl he N s p lo up).2.2.1 7 = N 7 := by
  revert h
  unfold ag_do
  split <;> (try split) <;> simp [va_up]
theorem step_7 {sc : List Nat} {tbl : Nat → Int32} {he : Nat} {A : ag_T} : (ag_step sc tbl he A).1 ≠ 3 → (ag_step sc tbl he A).2.2.1 7 = A.1 7 := by
  unfold ag_step
  simp only
  split
  · intro _
    simp [va_up]
  · split
    · intro h
      have h : (ag_do _ _ _ _ _ _ _ _ _).1 ≠ 3 := h
      show (ag_do _ _ _ _ _ _ _ _ _).2.2.1 7 = _
      rw [do_7 h]
      simp [va_up]
    · intro _
      simp [va_up]
theorem fa_keep {sc : List Nat} {tb : Nat → Nat → Int32} {q : ag_T × Nat} : ∀ k A h W, A.1 7 ≠ 0 → (fa_run sc tb k A h W (some q)).2 = some q
  | 0, A, h, W, _ => rfl
  | k + 1, A, h, W, h7 => by
    by_cases g0 : A.1 3 = 0
    · rw [fa_stop g0]
    · rw [fa_go g0]
      have hk := kid_eq (sc := sc) (tbl := tb h) (he := h) (A := A)
      have hp : (ag_step sc (tb h) h A).1 ≠ 3 → (ag_step sc (tb h) h A).2.2.1 7 = A.1 7 := step_7
      generalize ag_step sc (tb h) h A = st at hk hp
      unfold fa_next
      by_cases e3 : st.1 = 3
      · exact absurd (hk e3).2.2.1 h7
      · have h7' : st.2.2.1 7 ≠ 0 := by rw [hp e3]; exact h7
        split
        · exact fa_keep k _ _ _ h7'
        · split
          · exact fa_keep k _ _ _ h7'
          · split
            · exact fa_keep k _ _ _ h7'
            · rfl
/-- what an agent says in the free run: none where it is never born -/
def fl_W (sc : List Nat) (tb : Nat → Nat → Int32) (i p0 f j : Nat) : Option (List Int32) := if i < 4 then some (fa_run sc tb 200 (ag_new (i % 4) p0 f) j [] none).1 else fo_2 sc tb (fa_run sc tb 200 (ag_new (i % 4) p0 f) j [] none).2
def fl_P (w : Option (List Int32)) (M' : fm_M) : Prop := ∀ W, w = some W → M'.1 586 48 = nI W.length ∧ W.length ≤ 16 ∧ ∀ i x, W[i]? = some x → M'.1 628 i = x

theorem rc_alone {l : Launch} {b : Nat} {x : Nat → Nat} {D : va_G} {dA : Nat → ClassId} {i j p0 f n : Nat} {sc : List Nat} {tb : Nat → Nat → Int32} {M : fm_M} (hn : 629 ≤ n) (hR : fm_RP M) (hi : i < 8) (hL : nI (i % 4) < M.1 586 4) (hj : j < 4) (hp0 : p0 < 4) (hf : f ≤ 200) (h590 : M.1 590 (i % 4) = nI j) (h591 : M.1 591 (i % 4) = nI p0) (h592 : M.1 592 (i % 4) = nI f) (hs : hs_R M p0 sc) (htb : ∀ q, q < 4 → ∀ k, k < 8 → M.1 589 (8 * q + k) = tb q k) : Met l y_Mo_runAlone (Cond.code y_Mo_runAlone b_Mo_runAlone 3 (some .boolean) :: fm_T0) ({ frames := 9, cells := 0, slots := 0, locals := 280 }) (fm_Pc fm_lay fm_nf fm_fk fm_cl b x D dA (fm_tys dA) (fm_EX b x) false [.ref 586, .int (nI i)] n M) (fm_Qc fm_lay fm_nf fm_fk fm_cl b x D dA (fun r n' M' => r = some (.int (nI (if (fl_W sc tb i p0 f j).isSome then 1 else 0))) ∧ n' = n ∧ fx_R M M' ∧ fl_P (fl_W sc tb i p0 f j) M')) 0 0 (fm_A b) := by
  refine fm_enter (by decide) (Nat.le_of_ble_eq_true rfl) ?_
  intro p e s m args below meth c9 hc hr hnm hex htg
  refine fm_iload_n hc d_Mo_runAlone_0 rfl rfl ?_
  refine fm_iconst (v := nI 0) hc d_Mo_runAlone_1 rfl ?_
  refine fm_bipush (v := nI 7) hc d_Mo_runAlone_2 rfl ?_
  refine fm_callS (av := [.int (nI i), .int (nI 0), .int (nI 7)]) (rest := []) (y := y_Mo_within) (bytes := b_Mo_within) hc fm_T0_good (fm_EX_st b x) hex q_1049 q_13 q_1047 q_1048 pd_Mo_within (c_Mo_within_ok (wi_of8 (in8_of hi))) ⟨rfl, rfl, Nat.le_of_ble_eq_true rfl, Nat.le_of_ble_eq_true rfl⟩ ⟨Nat.le_of_ble_eq_true rfl, Nat.le_of_ble_eq_true rfl⟩ d_Mo_runAlone_4 (Nat.le_of_ble_eq_true rfl) (fun r n2 M2 hp => ?_)
  obtain ⟨rfl, hq1, hq2⟩ := hp
  replace hq1 := hq1.symm
  replace hq2 := hq2.symm
  subst hq1 hq2
  refine fm_cnt (z' := (0, 0)) rfl (fm_st (st' := [.int (nI 1)]) rfl ?_)
  refine fm_if_eq (tgt := 20) hc d_Mo_runAlone_7 rfl (fun gQ => absurd gQ (by decide)) (fun _ => ?_)
  refine fm_iload_n hc d_Mo_runAlone_10 rfl rfl ?_
  refine fm_iconst (v := nI 4) hc d_Mo_runAlone_11 rfl ?_
  refine fm_irem hc d_Mo_runAlone_12 (by decide) ?_
  refine fm_top (congrArg Value.int (irem4 i hi)) ?_
  refine fm_aload_n hc d_Mo_runAlone_13 rfl rfl ?_
  refine fm_getI (k := 4) hc K_Mo d_Mo_runAlone_14 q_889 rfl (by decide) (by omega) (by decide) (by decide) (by decide) rfl ?_
  refine fm_icmp_lt (tgt := 22) hc d_Mo_runAlone_17 rfl (fun _ => ?_) (fun gQ => absurd hL gQ)
  refine fm_aload_n hc d_Mo_runAlone_22 rfl rfl ?_
  refine fm_aload_n hc d_Mo_runAlone_23 rfl rfl ?_
  refine fm_getR (k := 5) (q := 590) hc K_Mo d_Mo_runAlone_24 q_890 rfl (by decide) (by omega) (by decide) (by decide) (by decide) rfl (rp_home hR) ?_
  refine fm_iload_n hc d_Mo_runAlone_27 rfl rfl ?_
  refine fm_iconst (v := nI 4) hc d_Mo_runAlone_28 rfl ?_
  refine fm_irem hc d_Mo_runAlone_29 (by decide) ?_
  refine fm_top (congrArg Value.int (irem4 i hi)) ?_
  refine fm_iald (j := i % 4) (len := 4) hc 0 d_Mo_runAlone_30 (by decide) (by omega) (by decide) rfl (by omega) (by decide) ?_
  refine fm_top (congrArg Value.int (show M.1 590 (i % 4) = nI j from h590)) ?_
  refine fm_putI (k := 46) (v := nI j) hc K_Mo d_Mo_runAlone_31 q_931 rfl (by decide) (by omega) (by decide) (by decide) (by decide) rfl rfl rfl rfl ?_
  refine fm_mem (M' := fm_put1 M 586 46 (nI j)) rfl rfl ?_
  refine fm_aload_n hc d_Mo_runAlone_34 rfl rfl ?_
  refine fm_iconst (v := nI 0) hc d_Mo_runAlone_35 rfl ?_
  refine fm_putI (k := 47) (v := nI 0) hc K_Mo d_Mo_runAlone_36 q_932 rfl (by decide) (by omega) (by decide) (by decide) (by decide) rfl rfl rfl rfl ?_
  refine fm_mem (M' := fm_put1 (fm_put1 M 586 46 (nI j)) 586 47 (nI 0)) rfl rfl ?_
  refine fm_aload_n hc d_Mo_runAlone_39 rfl rfl ?_
  refine fm_bipush (v := nI 96) hc d_Mo_runAlone_40 rfl ?_
  refine fm_iload_n hc d_Mo_runAlone_42 rfl rfl ?_
  refine fm_iconst (v := nI 4) hc d_Mo_runAlone_43 rfl ?_
  refine fm_irem hc d_Mo_runAlone_44 (by decide) ?_
  refine fm_top (congrArg Value.int (irem4 i hi)) ?_
  refine fm_callV (av := [.int (nI 96), .int (nI (i % 4))]) (rest := []) (ob := 586) (ci := 11) (r0 := ("AgentNetModel", F_Mo, 51)) (y := y_Mo_fresh) (bytes := b_Mo_fresh) hc fm_T0_good (fm_EX_st b x) hex q_1066 q_13 q_1063 q_1065 qs_Mo_fresh pd_Mo_fresh (by decide) (by omega) (by decide) (by decide) rfl rfl (c_fresh (M := fm_put1 (fm_put1 M 586 46 (nI j)) 586 47 (nI 0)) hn (fun q hq => hR q hq) (by decide) (by omega)) ⟨rfl, rfl, Nat.le_of_ble_eq_true rfl, Nat.le_of_ble_eq_true rfl⟩ ⟨Nat.le_of_ble_eq_true rfl, Nat.le_of_ble_eq_true rfl⟩ d_Mo_runAlone_45 (Nat.le_of_ble_eq_true rfl) (fun r n2 M2 hp => ?_)
  obtain ⟨rfl, hq1, hq2⟩ := hp
  replace hq1 := hq1.symm
  subst hq1
  have f0 : fx_R M (fm_put1 (fm_put1 M 586 46 (nI j)) 586 47 (nI 0)) := fxR_tr (fxR_p (Or.inl ⟨rfl, by decide, by decide⟩)) (fxR_p (Or.inl ⟨rfl, by decide, by decide⟩))
  have f1 : fx_R M M2 := fxR_tr f0 (by rw [hq2]; exact fxR_W2 (by decide) (by decide) (frW2_W (gc := 96) fresh_W))
  have f2 : hr_G M2 96 F_f (ag_new (i % 4) p0 f) (fun k => k) := by rw [hq2]; exact fresh_G ((p1_other (by decide)).trans ((p1_other (by decide)).trans h591)) ((p1_other (by decide)).trans ((p1_other (by decide)).trans h592))
  have f3 : M2.1 586 46 = nI j := by rw [hq2]; exact (fresh_W.2.1 586 46 (by decide) (by decide) (by decide) (by decide)).trans ((p1_at (by decide)).trans (p1_same _ _ _ _))
  have f4 : M2.1 586 47 = nI 0 := by rw [hq2]; exact (fresh_W.2.1 586 47 (by decide) (by decide) (by decide) (by decide)).trans (p1_same _ _ _ _)
  clear hq2 f0
  revert f1 f2 f3 f4
  generalize M2 = Mf
  intro f1 f2 f3 f4
  have hRf := fxR_RP f1 hR
  refine fm_cnt (z' := (0, 0)) rfl (fm_st (st' := []) rfl ?_)
  have hwn := new_wf (a := i % 4) (p := p0) (f := f) hp0 hf
  have hsf := hsR_x f1 hs
  have htf : ∀ q, q < 4 → ∀ k, k < 8 → Mf.1 589 (8 * q + k) = tb q k := fun q hq k hk => by rw [f1.1.2.2.1 589 (by decide) (by decide)]; exact htb q hq k hk
  by_cases i4 : i < 4
  · refine fm_iload_n hc d_Mo_runAlone_48 rfl rfl ?_
    refine fm_iconst (v := nI 4) hc d_Mo_runAlone_49 rfl ?_
    refine fm_icmp_ge (tgt := 61) hc d_Mo_runAlone_50 rfl (fun gQ => absurd gQ (hnleB (a := 4) (c := i) i4 (by decide))) (fun _ => ?_)
    refine fm_aload_n hc d_Mo_runAlone_53 rfl rfl ?_
    refine fm_bipush (v := nI 96) hc d_Mo_runAlone_54 rfl ?_
    refine fm_callV (av := [.int (nI 96)]) (rest := []) (ob := 586) (ci := 11) (r0 := ("AgentNetModel", F_Mo, 51)) (y := y_Mo_runOn) (bytes := b_Mo_runOn) hc fm_T0_good (fm_EX_st b x) hex q_1278 q_13 q_1275 q_1277 qs_Mo_runOn pd_Mo_runOn (by decide) (by omega) (by decide) (by decide) rfl rfl (rc_runOn (gi := 96) (a := i % 4) (A0 := ag_new (i % 4) p0 f) (j := j) (p0 := p0) (sc := sc) (tb := tb) hn hRf (Or.inl rfl) (Or.inl ⟨rfl, by omega⟩) hj f3 f2 hwn rfl hp0 hsf htf rfl) ⟨rfl, rfl, Nat.le_of_ble_eq_true rfl, Nat.le_of_ble_eq_true rfl⟩ ⟨Nat.le_of_ble_eq_true rfl, Nat.le_of_ble_eq_true rfl⟩ d_Mo_runAlone_56 (Nat.le_of_ble_eq_true rfl) (fun r n2 M2 hp => ?_)
    obtain ⟨rfl, hq1, e48, e16, ew, ex, e47⟩ := hp
    replace hq1 := hq1.symm
    subst hq1
    revert e48 e16 ew ex e47
    generalize M2 = Mg
    intro e48 e16 ew ex e47
    refine fm_cnt (z' := (0, 0)) rfl (fm_st (st' := []) rfl ?_)
    refine fm_iconst (v := nI 1) hc d_Mo_runAlone_59 rfl ?_
    exact fm_zret (ty := .boolean) hc hr (by first | rfl | decide) d_Mo_runAlone_60 (Nat.le_refl _) (Nat.le_refl _) ⟨by rw [show fl_W sc tb i p0 f j = some (fa_run sc tb 200 (ag_new (i % 4) p0 f) j [] none).1 from if_pos i4]; rfl, rfl, fxR_tr f1 ex, fun W hW => by rw [show fl_W sc tb i p0 f j = some (fa_run sc tb 200 (ag_new (i % 4) p0 f) j [] none).1 from if_pos i4] at hW; obtain rfl := Option.some.inj hW; exact ⟨e48, e16, ew⟩⟩
  · have hwl : fl_W sc tb i p0 f j = fo_2 sc tb (fa_run sc tb 200 (ag_new (i % 4) p0 f) j [] none).2 := if_neg i4
    rw [hwl]
    clear hwl
    have a4 : i % 4 < 4 := by omega
    have hsb : ∀ k v : Nat, sc[k]? = some v → v < 256 := fun k v hv => (hs.2.2 k v hv).2
    have hsl : sc.length ≤ 48 := hs.2.1
    obtain ⟨RR, hRR⟩ : ∃ RR, RR = fa_run sc tb 200 (ag_new (i % 4) p0 f) j [] none := ⟨_, rfl⟩
    rw [← hRR]
    refine fm_iload_n hc d_Mo_runAlone_48 rfl rfl ?_
    refine fm_iconst (v := nI 4) hc d_Mo_runAlone_49 rfl ?_
    refine fm_icmp_ge (tgt := 61) hc d_Mo_runAlone_50 rfl (fun _ => ?_) (fun gQ => absurd (nI_le (by omega) (by omega)) gQ)
    refine fm_iconst (v := nI 1) hc d_Mo_runAlone_61 rfl ?_
    refine fm_istore_n (lv' := [(2, .int (nI 1)), (0, .ref 586), (1, .int (nI i))]) hc d_Mo_runAlone_62 rfl (by decide) rfl ?_
    refine fm_loopS (σ := Nat × ag_T × Nat × List Int32 × fa_C) (N := 200) (lv := fun k t => [(2, .int (nI t.1)), (0, .ref 586), (1, .int (nI i))]) (I := fun k t M' => (∃ g', hr_G M' 96 F_f t.2.1 g') ∧ ag_wf (i % 4) t.2.1 ∧ t.2.1.1 1 = p0 ∧ t.2.2.1 < 4 ∧ M'.1 586 46 = nI t.2.2.1 ∧ t.2.1.1 3 + k ≤ 200 ∧ fx_R M M' ∧ t.1 ≤ 1 ∧ M'.1 586 47 = nI (if t.2.2.2.2.isSome then 1 else 0) ∧ (∀ K h, t.2.2.2.2 = some (K, h) → h = t.2.2.1 ∧ (∃ g', hr_G M' 97 F_f K g') ∧ ag_wf i K ∧ K.1 1 = p0 ∧ K.1 5 = 0 ∧ RR.2 = some (K, h)) ∧ (t.2.2.2.2 = none → t.1 = 1 → fa_run sc tb (200 - k) t.2.1 t.2.2.1 t.2.2.2.1 none = RR) ∧ (t.2.2.2.2 = none → t.1 = 0 → RR.2 = none)) (fun k t Mi hk hI ih => ?_) (fun t Mi hI => ?_) (t0 := (1, ag_new (i % 4) p0 f, j, [], none)) ⟨⟨_, f2⟩, hwn, rfl, hj, f3, hf, f1, Nat.le_refl 1, f4, (fun K h e => nomatch e), fun _ _ => hRR.symm, fun _ e => absurd e (show ¬ (1 : Nat) = 0 by decide)⟩
    · obtain ⟨on, A, he, W, c⟩ := t
      obtain ⟨⟨gg, i1⟩, i2, i3, i4', i5, i6, i7, i8, i9, i10, i11, i12⟩ := hI
      replace i1 : hr_G Mi 96 F_f A gg := i1
      replace i2 : ag_wf (i % 4) A := i2
      replace i3 : A.1 1 = p0 := i3
      replace i4' : he < 4 := i4'
      replace i5 : Mi.1 586 46 = nI he := i5
      replace i6 : A.1 3 + k ≤ 200 := i6
      replace i8 : on ≤ 1 := i8
      replace i9 : Mi.1 586 47 = nI (if c.isSome then 1 else 0) := i9
      replace i10 : (∀ K h, c = some (K, h) → h = he ∧ (∃ g', hr_G Mi 97 F_f K g') ∧ ag_wf i K ∧ K.1 1 = p0 ∧ K.1 5 = 0 ∧ RR.2 = some (K, h)) := i10
      replace i11 : c = none → on = 1 → fa_run sc tb (200 - k) A he W none = RR := i11
      replace i12 : c = none → on = 0 → RR.2 = none := i12
      have hRi := fxR_RP i7 hR
      have hfu : Mi.1 607 96 = nI (A.1 3) := i1.1 3 (by decide) (by decide) ⟨by decide, by decide⟩
      refine fm_tail (T := c = none → RR.2 = none) (pc1 := 115) (lv1 := [(2, .int (nI on)), (0, .ref 586), (1, .int (nI i))]) (st1 := []) (n1 := n) (M1 := Mi) (z1 := (0, 0)) (fun hN => ?_) (fun tail => ?_)
      · rcases hc0 : c with _ | ⟨K, h⟩
        · refine fm_aload_n hc d_Mo_runAlone_115 rfl rfl ?_
          refine fm_getI (k := 47) hc K_Mo d_Mo_runAlone_116 q_932 rfl (by decide) (by omega) (by decide) (by decide) (by decide) rfl ?_
          refine fm_top (congrArg Value.int (show Mi.1 586 47 = nI 0 from (i9.trans (by rw [hc0]; rfl)))) ?_
          refine fm_if_eq (tgt := 128) hc d_Mo_runAlone_119 rfl (fun _ => ?_) (fun gQ => absurd (by decide) gQ)
          refine fm_aload_n hc d_Mo_runAlone_128 rfl rfl ?_
          refine fm_getI (k := 47) hc K_Mo d_Mo_runAlone_129 q_932 rfl (by decide) (by omega) (by decide) (by decide) (by decide) rfl ?_
          refine fm_top (congrArg Value.int (show Mi.1 586 47 = nI 0 from (i9.trans (by rw [hc0]; rfl)))) ?_
          exact fm_zret (ty := .boolean) hc hr (by first | rfl | decide) d_Mo_runAlone_132 (Nat.le_refl _) (Nat.le_refl _) ⟨by rw [hN hc0]; rfl, rfl, i7, fun W hW => by rw [hN hc0] at hW; exact (nomatch hW)⟩
        · obtain ⟨k1, ⟨g', k2⟩, k3, k4, k5, k6⟩ := i10 K h hc0
          refine fm_aload_n hc d_Mo_runAlone_115 rfl rfl ?_
          refine fm_getI (k := 47) hc K_Mo d_Mo_runAlone_116 q_932 rfl (by decide) (by omega) (by decide) (by decide) (by decide) rfl ?_
          refine fm_top (congrArg Value.int (show Mi.1 586 47 = nI 1 from (i9.trans (by rw [hc0]; rfl)))) ?_
          refine fm_if_eq (tgt := 128) hc d_Mo_runAlone_119 rfl (fun gQ => absurd gQ (by decide)) (fun _ => ?_)
          refine fm_aload_n hc d_Mo_runAlone_122 rfl rfl ?_
          refine fm_bipush (v := nI 97) hc d_Mo_runAlone_123 rfl ?_
          refine fm_callV (av := [.int (nI 97)]) (rest := []) (ob := 586) (ci := 11) (r0 := ("AgentNetModel", F_Mo, 51)) (y := y_Mo_runOn) (bytes := b_Mo_runOn) hc fm_T0_good (fm_EX_st b x) hex q_1278 q_13 q_1275 q_1277 qs_Mo_runOn pd_Mo_runOn (by decide) (by omega) (by decide) (by decide) rfl rfl (rc_runOn (gi := 97) (a := i) (A0 := K) (j := h) (p0 := p0) (sc := sc) (tb := tb) hn hRi (Or.inr rfl) (Or.inr ⟨rfl, by omega, hi⟩) (by omega) (by rw [k1]; exact i5) k2 k3 k4 hp0 (hsR_x i7 hs) (fun q hq k hk => by rw [i7.1.2.2.1 589 (by decide) (by decide)]; exact htb q hq k hk) k5) ⟨rfl, rfl, Nat.le_of_ble_eq_true rfl, Nat.le_of_ble_eq_true rfl⟩ ⟨Nat.le_of_ble_eq_true rfl, Nat.le_of_ble_eq_true rfl⟩ d_Mo_runAlone_125 (Nat.le_of_ble_eq_true rfl) (fun r n2 M2 hp => ?_)
          obtain ⟨rfl, hq1, e48, e16, ew, ex, e47⟩ := hp
          replace hq1 := hq1.symm
          subst hq1
          revert e48 e16 ew ex e47
          generalize M2 = Mg
          intro e48 e16 ew ex e47
          have b47 : Mg.1 586 47 = nI 1 := (e47 rfl).trans (i9.trans (by rw [hc0]; rfl))
          have hRg := fxR_RP (fxR_tr i7 ex) hR
          refine fm_cnt (z' := (0, 0)) rfl (fm_st (st' := []) rfl ?_)
          refine fm_aload_n hc d_Mo_runAlone_128 rfl rfl ?_
          refine fm_getI (k := 47) hc K_Mo d_Mo_runAlone_129 q_932 rfl (by decide) (by omega) (by decide) (by decide) (by decide) rfl ?_
          refine fm_top (congrArg Value.int (show Mg.1 586 47 = nI 1 from b47)) ?_
          exact fm_zret (ty := .boolean) hc hr (by first | rfl | decide) d_Mo_runAlone_132 (Nat.le_refl _) (Nat.le_refl _) ⟨by rw [k6]; rfl, rfl, fxR_tr i7 ex, fun W hW => by rw [k6] at hW; obtain rfl := Option.some.inj hW; exact ⟨e48, e16, ew⟩⟩
      · rcases (show on = 0 ∨ on = 1 by omega) with rfl | rfl
        · refine fm_iload_n hc d_Mo_runAlone_63 rfl rfl ?_
          refine fm_if_eq (tgt := 115) hc d_Mo_runAlone_64 rfl (fun _ => ?_) (fun gQ => absurd (show nI 0 = 0 by decide) gQ)
          exact tail (fun e => i12 e rfl)
        · rcases hcc : c with _ | q0
          · replace i9 : Mi.1 586 47 = nI 0 := i9.trans (by rw [hcc]; rfl)
            by_cases g0 : A.1 3 = 0
            · refine fm_iload_n hc d_Mo_runAlone_63 rfl rfl ?_
              refine fm_if_eq (tgt := 115) hc d_Mo_runAlone_64 rfl (fun gQ => absurd gQ (show ¬ nI 1 = 0 by decide)) (fun _ => ?_)
              refine fm_aload_n hc d_Mo_runAlone_67 rfl rfl ?_
              refine fm_getI (k := 47) hc K_Mo d_Mo_runAlone_68 q_932 rfl (by decide) (by omega) (by decide) (by decide) (by decide) rfl ?_
              refine fm_top (congrArg Value.int (show Mi.1 586 47 = nI 0 from i9)) ?_
              refine fm_if_ne (tgt := 115) hc d_Mo_runAlone_71 rfl (fun gQ => absurd (by decide) gQ) (fun _ => ?_)
              refine fm_aload_n hc d_Mo_runAlone_74 rfl rfl ?_
              refine fm_getR (k := 22) (q := 607) hc K_Mo d_Mo_runAlone_75 q_907 rfl (by decide) (by omega) (by decide) (by decide) (by decide) rfl (rp_fuel hRi) ?_
              refine fm_bipush (v := nI 96) hc d_Mo_runAlone_78 rfl ?_
              refine fm_iald (j := 96) (len := 98) hc 0 d_Mo_runAlone_80 (by decide) (by omega) (by decide) rfl (by omega) (by decide) ?_
              refine fm_top (congrArg Value.int (show Mi.1 607 96 = nI (A.1 3) from hfu)) ?_
              refine fm_if_le (tgt := 115) hc d_Mo_runAlone_81 rfl (fun _ => ?_) (fun gQ => absurd (by rw [g0]; decide) gQ)
              refine tail (fun e => ?_)
              rw [← i11 hcc rfl, fa_stop g0]
            · have e200 : 200 - k = (200 - (k + 1)) + 1 := by omega
              have i13 := i11 hcc rfl
              rw [e200, fa_go g0] at i13
              have x0 : fx_R M (fm_put1 Mi 586 48 (nI 0)) := fxR_tr i7 (fxR_p (Or.inl ⟨rfl, by decide, by decide⟩))
              have hwork := rc_work_g (l := l) (b := b) (x := x) (D := D) (dA := dA) (n := n) (M := fm_put1 Mi 586 48 (nI 0)) (fc := 0) (gi := 96) (he := he) (N := A.1) (s0 := A.2.1) (p := A.2.2) (g := gg) (sc := sc) (tbl := tb he) hn (fun q hq => hRi q hq) ((p1_at (by decide)).trans i5) i4' (Or.inl rfl) (by rw [i2.2.2.1]; omega) (p1_same _ _ _ _) (by decide) (hrG_o1 (Or.inl (by decide)) i1) i2.1 i2.2.1 (by omega) (by rw [i3]; exact hsR_x x0 hs) (fun c hc => by rw [x0.1.2.2.1 589 (by decide) (by decide)]; exact htb he i4' c hc) (by have := i2.2.2.2.2.1; omega) (by omega) (by omega) (by have := i2.2.2.2.2.2.2.1; omega) i2.2.2.2.2.2.2.2.2
              obtain ⟨s1, s2, s3, s4, s5, s6, s7⟩ := step_wf (he := he) (tbl := tb he) i2 (by omega) hsb hsl
              have k3 := kid_wf (he := he) (tbl := tb he) i2 (by omega) hsb hsl
              have e1 := step_1 (sc := sc) (tbl := tb he) (he := he) (A := A)
              clear tail i10 i11 i12
              subst hcc
              generalize (ag_step sc (tb he) he A) = st at *
              obtain ⟨ak, av, P⟩ := st
              replace s2 : ak ≤ 5 := s2
              replace s1 : ag_wf (i % 4) P := s1
              replace e1 : P.1 1 = A.1 1 := e1
              replace s5 : P.1 3 < A.1 3 := s5
              replace s6 : P.1 7 = if ak = 3 then 1 else A.1 7 := s6
              rcases (show ak = 0 ∨ ak = 1 ∨ ak = 2 ∨ ak = 3 ∨ ak = 4 ∨ ak = 5 by omega) with rfl | rfl | rfl | rfl | rfl | rfl
              · clear k3 s7
                refine fm_iload_n hc d_Mo_runAlone_63 rfl rfl ?_
                refine fm_if_eq (tgt := 115) hc d_Mo_runAlone_64 rfl (fun gQ => absurd gQ (show ¬ nI 1 = 0 by decide)) (fun _ => ?_)
                refine fm_aload_n hc d_Mo_runAlone_67 rfl rfl ?_
                refine fm_getI (k := 47) hc K_Mo d_Mo_runAlone_68 q_932 rfl (by decide) (by omega) (by decide) (by decide) (by decide) rfl ?_
                refine fm_top (congrArg Value.int (show Mi.1 586 47 = nI 0 from i9)) ?_
                refine fm_if_ne (tgt := 115) hc d_Mo_runAlone_71 rfl (fun gQ => absurd (by decide) gQ) (fun _ => ?_)
                refine fm_aload_n hc d_Mo_runAlone_74 rfl rfl ?_
                refine fm_getR (k := 22) (q := 607) hc K_Mo d_Mo_runAlone_75 q_907 rfl (by decide) (by omega) (by decide) (by decide) (by decide) rfl (rp_fuel hRi) ?_
                refine fm_bipush (v := nI 96) hc d_Mo_runAlone_78 rfl ?_
                refine fm_iald (j := 96) (len := 98) hc 0 d_Mo_runAlone_80 (by decide) (by omega) (by decide) rfl (by omega) (by decide) ?_
                refine fm_top (congrArg Value.int (show Mi.1 607 96 = nI (A.1 3) from hfu)) ?_
                refine fm_if_le (tgt := 115) hc d_Mo_runAlone_81 rfl (fun gQ => absurd gQ (fun q => g0 (by have := (nI_leI (a := A.1 3) (b := 0) (by omega) (by decide)).mp q; omega))) (fun _ => ?_)
                refine fm_aload_n hc d_Mo_runAlone_84 rfl rfl ?_
                refine fm_iconst (v := nI 0) hc d_Mo_runAlone_85 rfl ?_
                refine fm_putI (k := 48) (v := nI 0) hc K_Mo d_Mo_runAlone_86 q_933 rfl (by decide) (by omega) (by decide) (by decide) (by decide) rfl rfl rfl rfl ?_
                refine fm_mem (M' := fm_put1 Mi 586 48 (nI 0)) rfl rfl ?_
                refine fm_aload_n hc d_Mo_runAlone_89 rfl rfl ?_
                refine fm_bipush (v := nI 96) hc d_Mo_runAlone_90 rfl ?_
                refine fm_iconst (v := (-1)) hc d_Mo_runAlone_92 rfl ?_
                refine fm_callV (av := [.int (nI 96), .int ((-1))]) (rest := []) (ob := 586) (ci := 11) (r0 := ("AgentNetModel", F_Mo, 51)) (y := y_Mo_work) (bytes := b_Mo_work) hc fm_T0_good (fm_EX_st b x) hex q_1082 q_13 q_1079 q_1081 qs_Mo_work pd_Mo_work (by decide) (by omega) (by decide) (by decide) rfl rfl (hwork) ⟨rfl, rfl, Nat.le_of_ble_eq_true rfl, Nat.le_of_ble_eq_true rfl⟩ ⟨Nat.le_of_ble_eq_true rfl, Nat.le_of_ble_eq_true rfl⟩ d_Mo_runAlone_93 (Nat.le_of_ble_eq_true rfl) (fun r n2 M2 hp => ?_)
                obtain ⟨rfl, hq1, r1⟩ := hp
                replace hq1 := hq1.symm
                subst hq1
                revert r1
                generalize M2 = Ma
                intro r1
                replace r1 : rW_g 0 96 (fm_put1 Mi 586 48 (nI 0)) A (0, av, P) Ma := r1
                obtain ⟨x1, x2, x3, x4, x5, x6, x7, x8⟩ := rW_x (by omega) (by decide) r1
                have xm := fxR_tr x0 x1
                have hRa := fxR_RP x1 (fun q hq => hRi q hq)
                replace x3 : Ma.1 586 46 = nI he := x3.trans ((p1_at (by decide)).trans i5)
                replace x7 : Ma.1 586 47 = nI 0 := x7.trans ((p1_at (by decide)).trans i9)
                refine fm_cnt (z' := (0, 0)) rfl (fm_st (st' := [.int (nI 1)]) rfl ?_)
                refine fm_if_eq (tgt := 110) hc d_Mo_runAlone_96 rfl (fun gQ => absurd gQ (show ¬ nI 1 = 0 by decide)) (fun _ => ?_)
                refine fm_aload_n hc d_Mo_runAlone_99 rfl rfl ?_
                refine fm_getI (k := 50) hc K_Mo d_Mo_runAlone_100 q_935 rfl (by decide) (by omega) (by decide) (by decide) (by decide) rfl ?_
                refine fm_top (congrArg Value.int (show Ma.1 586 50 = nI 0 from x6)) ?_
                refine fm_if_ne (tgt := 110) hc d_Mo_runAlone_103 rfl (fun gQ => absurd (by decide) gQ) (fun _ => ?_)
                refine fm_iconst (v := nI 1) hc d_Mo_runAlone_106 rfl ?_
                refine fm_goto (tgt := 111) hc d_Mo_runAlone_107 rfl ?_
                refine fm_istore_n (lv' := [(2, .int (nI 1)), (0, .ref 586), (1, .int (nI i))]) hc d_Mo_runAlone_111 rfl (by decide) rfl ?_
                refine fm_goto (tgt := 63) hc d_Mo_runAlone_112 rfl ?_
                exact ih (1, P, he, W, none) _ ⟨x2, s1, e1.trans i3, i4', x3, (show P.1 3 + (k + 1) ≤ 200 by omega), xm, (by show (1 : Nat) ≤ 1; decide), x7, (fun K h e => nomatch e), fun _ _ => by rw [← i13, fa_next, if_neg (show ¬ (0 : Nat) = 1 by decide), if_neg (show ¬ (0 : Nat) = 2 by decide), if_neg (show ¬ (0 : Nat) = 3 by decide), if_pos (show (0 : Nat) = 0 from rfl)], fun _ e => absurd e (show ¬ (1 : Nat) = 0 by decide)⟩
              · clear k3 s7
                refine fm_iload_n hc d_Mo_runAlone_63 rfl rfl ?_
                refine fm_if_eq (tgt := 115) hc d_Mo_runAlone_64 rfl (fun gQ => absurd gQ (show ¬ nI 1 = 0 by decide)) (fun _ => ?_)
                refine fm_aload_n hc d_Mo_runAlone_67 rfl rfl ?_
                refine fm_getI (k := 47) hc K_Mo d_Mo_runAlone_68 q_932 rfl (by decide) (by omega) (by decide) (by decide) (by decide) rfl ?_
                refine fm_top (congrArg Value.int (show Mi.1 586 47 = nI 0 from i9)) ?_
                refine fm_if_ne (tgt := 115) hc d_Mo_runAlone_71 rfl (fun gQ => absurd (by decide) gQ) (fun _ => ?_)
                refine fm_aload_n hc d_Mo_runAlone_74 rfl rfl ?_
                refine fm_getR (k := 22) (q := 607) hc K_Mo d_Mo_runAlone_75 q_907 rfl (by decide) (by omega) (by decide) (by decide) (by decide) rfl (rp_fuel hRi) ?_
                refine fm_bipush (v := nI 96) hc d_Mo_runAlone_78 rfl ?_
                refine fm_iald (j := 96) (len := 98) hc 0 d_Mo_runAlone_80 (by decide) (by omega) (by decide) rfl (by omega) (by decide) ?_
                refine fm_top (congrArg Value.int (show Mi.1 607 96 = nI (A.1 3) from hfu)) ?_
                refine fm_if_le (tgt := 115) hc d_Mo_runAlone_81 rfl (fun gQ => absurd gQ (fun q => g0 (by have := (nI_leI (a := A.1 3) (b := 0) (by omega) (by decide)).mp q; omega))) (fun _ => ?_)
                refine fm_aload_n hc d_Mo_runAlone_84 rfl rfl ?_
                refine fm_iconst (v := nI 0) hc d_Mo_runAlone_85 rfl ?_
                refine fm_putI (k := 48) (v := nI 0) hc K_Mo d_Mo_runAlone_86 q_933 rfl (by decide) (by omega) (by decide) (by decide) (by decide) rfl rfl rfl rfl ?_
                refine fm_mem (M' := fm_put1 Mi 586 48 (nI 0)) rfl rfl ?_
                refine fm_aload_n hc d_Mo_runAlone_89 rfl rfl ?_
                refine fm_bipush (v := nI 96) hc d_Mo_runAlone_90 rfl ?_
                refine fm_iconst (v := (-1)) hc d_Mo_runAlone_92 rfl ?_
                refine fm_callV (av := [.int (nI 96), .int ((-1))]) (rest := []) (ob := 586) (ci := 11) (r0 := ("AgentNetModel", F_Mo, 51)) (y := y_Mo_work) (bytes := b_Mo_work) hc fm_T0_good (fm_EX_st b x) hex q_1082 q_13 q_1079 q_1081 qs_Mo_work pd_Mo_work (by decide) (by omega) (by decide) (by decide) rfl rfl (hwork) ⟨rfl, rfl, Nat.le_of_ble_eq_true rfl, Nat.le_of_ble_eq_true rfl⟩ ⟨Nat.le_of_ble_eq_true rfl, Nat.le_of_ble_eq_true rfl⟩ d_Mo_runAlone_93 (Nat.le_of_ble_eq_true rfl) (fun r n2 M2 hp => ?_)
                obtain ⟨rfl, hq1, r1⟩ := hp
                replace hq1 := hq1.symm
                subst hq1
                revert r1
                generalize M2 = Ma
                intro r1
                replace r1 : rW_g 0 96 (fm_put1 Mi 586 48 (nI 0)) A (1, av, P) Ma := r1
                obtain ⟨x1, x2, x3, x4, x5, x6, x7, x8⟩ := rW_x (by omega) (by decide) r1
                have xm := fxR_tr x0 x1
                have hRa := fxR_RP x1 (fun q hq => hRi q hq)
                replace x3 : Ma.1 586 46 = nI he := x3.trans ((p1_at (by decide)).trans i5)
                replace x7 : Ma.1 586 47 = nI 0 := x7.trans ((p1_at (by decide)).trans i9)
                refine fm_cnt (z' := (0, 0)) rfl (fm_st (st' := [.int (nI 1)]) rfl ?_)
                refine fm_if_eq (tgt := 110) hc d_Mo_runAlone_96 rfl (fun gQ => absurd gQ (show ¬ nI 1 = 0 by decide)) (fun _ => ?_)
                refine fm_aload_n hc d_Mo_runAlone_99 rfl rfl ?_
                refine fm_getI (k := 50) hc K_Mo d_Mo_runAlone_100 q_935 rfl (by decide) (by omega) (by decide) (by decide) (by decide) rfl ?_
                refine fm_top (congrArg Value.int (show Ma.1 586 50 = nI 0 from x6)) ?_
                refine fm_if_ne (tgt := 110) hc d_Mo_runAlone_103 rfl (fun gQ => absurd (by decide) gQ) (fun _ => ?_)
                refine fm_iconst (v := nI 1) hc d_Mo_runAlone_106 rfl ?_
                refine fm_goto (tgt := 111) hc d_Mo_runAlone_107 rfl ?_
                refine fm_istore_n (lv' := [(2, .int (nI 1)), (0, .ref 586), (1, .int (nI i))]) hc d_Mo_runAlone_111 rfl (by decide) rfl ?_
                refine fm_goto (tgt := 63) hc d_Mo_runAlone_112 rfl ?_
                exact ih (1, P, he, W ++ [av], none) _ ⟨x2, s1, e1.trans i3, i4', x3, (show P.1 3 + (k + 1) ≤ 200 by omega), xm, (by show (1 : Nat) ≤ 1; decide), x7, (fun K h e => nomatch e), fun _ _ => by rw [← i13, fa_next, if_pos (show (1 : Nat) = 1 from rfl)], fun _ e => absurd e (show ¬ (1 : Nat) = 0 by decide)⟩
              · obtain ⟨d, hd4, hdn, hde⟩ := s7 rfl
                replace hde : av = nI d := hde
                have hd : av.toInt.toNat = d := by rw [hde, nI_int (by omega)]; rfl
                clear s7 k3 hdn
                refine fm_iload_n hc d_Mo_runAlone_63 rfl rfl ?_
                refine fm_if_eq (tgt := 115) hc d_Mo_runAlone_64 rfl (fun gQ => absurd gQ (show ¬ nI 1 = 0 by decide)) (fun _ => ?_)
                refine fm_aload_n hc d_Mo_runAlone_67 rfl rfl ?_
                refine fm_getI (k := 47) hc K_Mo d_Mo_runAlone_68 q_932 rfl (by decide) (by omega) (by decide) (by decide) (by decide) rfl ?_
                refine fm_top (congrArg Value.int (show Mi.1 586 47 = nI 0 from i9)) ?_
                refine fm_if_ne (tgt := 115) hc d_Mo_runAlone_71 rfl (fun gQ => absurd (by decide) gQ) (fun _ => ?_)
                refine fm_aload_n hc d_Mo_runAlone_74 rfl rfl ?_
                refine fm_getR (k := 22) (q := 607) hc K_Mo d_Mo_runAlone_75 q_907 rfl (by decide) (by omega) (by decide) (by decide) (by decide) rfl (rp_fuel hRi) ?_
                refine fm_bipush (v := nI 96) hc d_Mo_runAlone_78 rfl ?_
                refine fm_iald (j := 96) (len := 98) hc 0 d_Mo_runAlone_80 (by decide) (by omega) (by decide) rfl (by omega) (by decide) ?_
                refine fm_top (congrArg Value.int (show Mi.1 607 96 = nI (A.1 3) from hfu)) ?_
                refine fm_if_le (tgt := 115) hc d_Mo_runAlone_81 rfl (fun gQ => absurd gQ (fun q => g0 (by have := (nI_leI (a := A.1 3) (b := 0) (by omega) (by decide)).mp q; omega))) (fun _ => ?_)
                refine fm_aload_n hc d_Mo_runAlone_84 rfl rfl ?_
                refine fm_iconst (v := nI 0) hc d_Mo_runAlone_85 rfl ?_
                refine fm_putI (k := 48) (v := nI 0) hc K_Mo d_Mo_runAlone_86 q_933 rfl (by decide) (by omega) (by decide) (by decide) (by decide) rfl rfl rfl rfl ?_
                refine fm_mem (M' := fm_put1 Mi 586 48 (nI 0)) rfl rfl ?_
                refine fm_aload_n hc d_Mo_runAlone_89 rfl rfl ?_
                refine fm_bipush (v := nI 96) hc d_Mo_runAlone_90 rfl ?_
                refine fm_iconst (v := (-1)) hc d_Mo_runAlone_92 rfl ?_
                refine fm_callV (av := [.int (nI 96), .int ((-1))]) (rest := []) (ob := 586) (ci := 11) (r0 := ("AgentNetModel", F_Mo, 51)) (y := y_Mo_work) (bytes := b_Mo_work) hc fm_T0_good (fm_EX_st b x) hex q_1082 q_13 q_1079 q_1081 qs_Mo_work pd_Mo_work (by decide) (by omega) (by decide) (by decide) rfl rfl (hwork) ⟨rfl, rfl, Nat.le_of_ble_eq_true rfl, Nat.le_of_ble_eq_true rfl⟩ ⟨Nat.le_of_ble_eq_true rfl, Nat.le_of_ble_eq_true rfl⟩ d_Mo_runAlone_93 (Nat.le_of_ble_eq_true rfl) (fun r n2 M2 hp => ?_)
                obtain ⟨rfl, hq1, r1⟩ := hp
                replace hq1 := hq1.symm
                subst hq1
                revert r1
                generalize M2 = Ma
                intro r1
                replace r1 : rW_g 0 96 (fm_put1 Mi 586 48 (nI 0)) A (2, av, P) Ma := r1
                obtain ⟨x1, x2, x3, x4, x5, x6, x7, x8⟩ := rW_x (by omega) (by decide) r1
                have xm := fxR_tr x0 x1
                have hRa := fxR_RP x1 (fun q hq => hRi q hq)
                replace x3 : Ma.1 586 46 = av := x3
                replace x7 : Ma.1 586 47 = nI 0 := x7.trans ((p1_at (by decide)).trans i9)
                refine fm_cnt (z' := (0, 0)) rfl (fm_st (st' := [.int (nI 1)]) rfl ?_)
                refine fm_if_eq (tgt := 110) hc d_Mo_runAlone_96 rfl (fun gQ => absurd gQ (show ¬ nI 1 = 0 by decide)) (fun _ => ?_)
                refine fm_aload_n hc d_Mo_runAlone_99 rfl rfl ?_
                refine fm_getI (k := 50) hc K_Mo d_Mo_runAlone_100 q_935 rfl (by decide) (by omega) (by decide) (by decide) (by decide) rfl ?_
                refine fm_top (congrArg Value.int (show Ma.1 586 50 = nI 0 from x6)) ?_
                refine fm_if_ne (tgt := 110) hc d_Mo_runAlone_103 rfl (fun gQ => absurd (by decide) gQ) (fun _ => ?_)
                refine fm_iconst (v := nI 1) hc d_Mo_runAlone_106 rfl ?_
                refine fm_goto (tgt := 111) hc d_Mo_runAlone_107 rfl ?_
                refine fm_istore_n (lv' := [(2, .int (nI 1)), (0, .ref 586), (1, .int (nI i))]) hc d_Mo_runAlone_111 rfl (by decide) rfl ?_
                refine fm_goto (tgt := 63) hc d_Mo_runAlone_112 rfl ?_
                exact ih (1, P, d, W, none) _ ⟨x2, s1, e1.trans i3, hd4, x3.trans hde, (show P.1 3 + (k + 1) ≤ 200 by omega), xm, (by show (1 : Nat) ≤ 1; decide), x7, (fun K h e => nomatch e), fun _ _ => by rw [← i13, fa_next, if_neg (show ¬ (2 : Nat) = 1 by decide), if_pos (show (2 : Nat) = 2 from rfl), hd], fun _ e => absurd e (show ¬ (1 : Nat) = 0 by decide)⟩
              · obtain ⟨a4q, -, kw⟩ := k3 rfl
                replace kw : ag_wf (i % 4 + 4) (ag_kidOf A av.toInt.toNat) := kw
                clear s7 k3
                refine fm_iload_n hc d_Mo_runAlone_63 rfl rfl ?_
                refine fm_if_eq (tgt := 115) hc d_Mo_runAlone_64 rfl (fun gQ => absurd gQ (show ¬ nI 1 = 0 by decide)) (fun _ => ?_)
                refine fm_aload_n hc d_Mo_runAlone_67 rfl rfl ?_
                refine fm_getI (k := 47) hc K_Mo d_Mo_runAlone_68 q_932 rfl (by decide) (by omega) (by decide) (by decide) (by decide) rfl ?_
                refine fm_top (congrArg Value.int (show Mi.1 586 47 = nI 0 from i9)) ?_
                refine fm_if_ne (tgt := 115) hc d_Mo_runAlone_71 rfl (fun gQ => absurd (by decide) gQ) (fun _ => ?_)
                refine fm_aload_n hc d_Mo_runAlone_74 rfl rfl ?_
                refine fm_getR (k := 22) (q := 607) hc K_Mo d_Mo_runAlone_75 q_907 rfl (by decide) (by omega) (by decide) (by decide) (by decide) rfl (rp_fuel hRi) ?_
                refine fm_bipush (v := nI 96) hc d_Mo_runAlone_78 rfl ?_
                refine fm_iald (j := 96) (len := 98) hc 0 d_Mo_runAlone_80 (by decide) (by omega) (by decide) rfl (by omega) (by decide) ?_
                refine fm_top (congrArg Value.int (show Mi.1 607 96 = nI (A.1 3) from hfu)) ?_
                refine fm_if_le (tgt := 115) hc d_Mo_runAlone_81 rfl (fun gQ => absurd gQ (fun q => g0 (by have := (nI_leI (a := A.1 3) (b := 0) (by omega) (by decide)).mp q; omega))) (fun _ => ?_)
                refine fm_aload_n hc d_Mo_runAlone_84 rfl rfl ?_
                refine fm_iconst (v := nI 0) hc d_Mo_runAlone_85 rfl ?_
                refine fm_putI (k := 48) (v := nI 0) hc K_Mo d_Mo_runAlone_86 q_933 rfl (by decide) (by omega) (by decide) (by decide) (by decide) rfl rfl rfl rfl ?_
                refine fm_mem (M' := fm_put1 Mi 586 48 (nI 0)) rfl rfl ?_
                refine fm_aload_n hc d_Mo_runAlone_89 rfl rfl ?_
                refine fm_bipush (v := nI 96) hc d_Mo_runAlone_90 rfl ?_
                refine fm_iconst (v := (-1)) hc d_Mo_runAlone_92 rfl ?_
                refine fm_callV (av := [.int (nI 96), .int ((-1))]) (rest := []) (ob := 586) (ci := 11) (r0 := ("AgentNetModel", F_Mo, 51)) (y := y_Mo_work) (bytes := b_Mo_work) hc fm_T0_good (fm_EX_st b x) hex q_1082 q_13 q_1079 q_1081 qs_Mo_work pd_Mo_work (by decide) (by omega) (by decide) (by decide) rfl rfl (hwork) ⟨rfl, rfl, Nat.le_of_ble_eq_true rfl, Nat.le_of_ble_eq_true rfl⟩ ⟨Nat.le_of_ble_eq_true rfl, Nat.le_of_ble_eq_true rfl⟩ d_Mo_runAlone_93 (Nat.le_of_ble_eq_true rfl) (fun r n2 M2 hp => ?_)
                obtain ⟨rfl, hq1, r1⟩ := hp
                replace hq1 := hq1.symm
                subst hq1
                revert r1
                generalize M2 = Ma
                intro r1
                replace r1 : rW_g 0 96 (fm_put1 Mi 586 48 (nI 0)) A (3, av, P) Ma := r1
                obtain ⟨x1, x2, x3, x4, x5, x6, x7, x8⟩ := rW_x (by omega) (by decide) r1
                have xm := fxR_tr x0 x1
                have hRa := fxR_RP x1 (fun q hq => hRi q hq)
                replace x3 : Ma.1 586 46 = nI he := x3.trans ((p1_at (by decide)).trans i5)
                replace x7 : Ma.1 586 47 = nI 1 := x7
                refine fm_cnt (z' := (0, 0)) rfl (fm_st (st' := [.int (nI 1)]) rfl ?_)
                refine fm_if_eq (tgt := 110) hc d_Mo_runAlone_96 rfl (fun gQ => absurd gQ (show ¬ nI 1 = 0 by decide)) (fun _ => ?_)
                refine fm_aload_n hc d_Mo_runAlone_99 rfl rfl ?_
                refine fm_getI (k := 50) hc K_Mo d_Mo_runAlone_100 q_935 rfl (by decide) (by omega) (by decide) (by decide) (by decide) rfl ?_
                refine fm_top (congrArg Value.int (show Ma.1 586 50 = nI 0 from x6)) ?_
                refine fm_if_ne (tgt := 110) hc d_Mo_runAlone_103 rfl (fun gQ => absurd (by decide) gQ) (fun _ => ?_)
                refine fm_iconst (v := nI 1) hc d_Mo_runAlone_106 rfl ?_
                refine fm_goto (tgt := 111) hc d_Mo_runAlone_107 rfl ?_
                refine fm_istore_n (lv' := [(2, .int (nI 1)), (0, .ref 586), (1, .int (nI i))]) hc d_Mo_runAlone_111 rfl (by decide) rfl ?_
                refine fm_goto (tgt := 63) hc d_Mo_runAlone_112 rfl ?_
                exact ih (1, P, he, W, some (ag_kidOf A av.toInt.toNat, he)) _ ⟨x2, s1, e1.trans i3, i4', x3, (show P.1 3 + (k + 1) ≤ 200 by omega), xm, (by show (1 : Nat) ≤ 1; decide), x7, fun K h e => by
                  obtain ⟨rfl, rfl⟩ := Prod.mk.inj (Option.some.inj e)
                  refine ⟨rfl, x8 rfl, by rw [show i = i % 4 + 4 by omega]; exact kw, kid_1.1.trans i3, kid_1.2.1, ?_⟩
                  rw [← i13, fa_next, if_neg (show ¬ (3 : Nat) = 1 by decide), if_neg (show ¬ (3 : Nat) = 2 by decide), if_pos (show (3 : Nat) = 3 from rfl)]
                  exact fa_keep _ _ _ _ (by rw [s6, if_pos rfl]; decide), (fun e => nomatch e), (fun e => nomatch e)⟩
              · clear k3 s7
                refine fm_iload_n hc d_Mo_runAlone_63 rfl rfl ?_
                refine fm_if_eq (tgt := 115) hc d_Mo_runAlone_64 rfl (fun gQ => absurd gQ (show ¬ nI 1 = 0 by decide)) (fun _ => ?_)
                refine fm_aload_n hc d_Mo_runAlone_67 rfl rfl ?_
                refine fm_getI (k := 47) hc K_Mo d_Mo_runAlone_68 q_932 rfl (by decide) (by omega) (by decide) (by decide) (by decide) rfl ?_
                refine fm_top (congrArg Value.int (show Mi.1 586 47 = nI 0 from i9)) ?_
                refine fm_if_ne (tgt := 115) hc d_Mo_runAlone_71 rfl (fun gQ => absurd (by decide) gQ) (fun _ => ?_)
                refine fm_aload_n hc d_Mo_runAlone_74 rfl rfl ?_
                refine fm_getR (k := 22) (q := 607) hc K_Mo d_Mo_runAlone_75 q_907 rfl (by decide) (by omega) (by decide) (by decide) (by decide) rfl (rp_fuel hRi) ?_
                refine fm_bipush (v := nI 96) hc d_Mo_runAlone_78 rfl ?_
                refine fm_iald (j := 96) (len := 98) hc 0 d_Mo_runAlone_80 (by decide) (by omega) (by decide) rfl (by omega) (by decide) ?_
                refine fm_top (congrArg Value.int (show Mi.1 607 96 = nI (A.1 3) from hfu)) ?_
                refine fm_if_le (tgt := 115) hc d_Mo_runAlone_81 rfl (fun gQ => absurd gQ (fun q => g0 (by have := (nI_leI (a := A.1 3) (b := 0) (by omega) (by decide)).mp q; omega))) (fun _ => ?_)
                refine fm_aload_n hc d_Mo_runAlone_84 rfl rfl ?_
                refine fm_iconst (v := nI 0) hc d_Mo_runAlone_85 rfl ?_
                refine fm_putI (k := 48) (v := nI 0) hc K_Mo d_Mo_runAlone_86 q_933 rfl (by decide) (by omega) (by decide) (by decide) (by decide) rfl rfl rfl rfl ?_
                refine fm_mem (M' := fm_put1 Mi 586 48 (nI 0)) rfl rfl ?_
                refine fm_aload_n hc d_Mo_runAlone_89 rfl rfl ?_
                refine fm_bipush (v := nI 96) hc d_Mo_runAlone_90 rfl ?_
                refine fm_iconst (v := (-1)) hc d_Mo_runAlone_92 rfl ?_
                refine fm_callV (av := [.int (nI 96), .int ((-1))]) (rest := []) (ob := 586) (ci := 11) (r0 := ("AgentNetModel", F_Mo, 51)) (y := y_Mo_work) (bytes := b_Mo_work) hc fm_T0_good (fm_EX_st b x) hex q_1082 q_13 q_1079 q_1081 qs_Mo_work pd_Mo_work (by decide) (by omega) (by decide) (by decide) rfl rfl (hwork) ⟨rfl, rfl, Nat.le_of_ble_eq_true rfl, Nat.le_of_ble_eq_true rfl⟩ ⟨Nat.le_of_ble_eq_true rfl, Nat.le_of_ble_eq_true rfl⟩ d_Mo_runAlone_93 (Nat.le_of_ble_eq_true rfl) (fun r n2 M2 hp => ?_)
                obtain ⟨rfl, hq1, r1⟩ := hp
                replace hq1 := hq1.symm
                subst hq1
                revert r1
                generalize M2 = Ma
                intro r1
                replace r1 : rW_g 0 96 (fm_put1 Mi 586 48 (nI 0)) A (4, av, P) Ma := r1
                obtain ⟨x1, x2, x3, x4, x5, x6, x7, x8⟩ := rW_x (by omega) (by decide) r1
                have xm := fxR_tr x0 x1
                have hRa := fxR_RP x1 (fun q hq => hRi q hq)
                replace x3 : Ma.1 586 46 = nI he := x3.trans ((p1_at (by decide)).trans i5)
                replace x7 : Ma.1 586 47 = nI 0 := x7.trans ((p1_at (by decide)).trans i9)
                refine fm_cnt (z' := (0, 0)) rfl (fm_st (st' := [.int (nI 1)]) rfl ?_)
                refine fm_if_eq (tgt := 110) hc d_Mo_runAlone_96 rfl (fun gQ => absurd gQ (show ¬ nI 1 = 0 by decide)) (fun _ => ?_)
                refine fm_aload_n hc d_Mo_runAlone_99 rfl rfl ?_
                refine fm_getI (k := 50) hc K_Mo d_Mo_runAlone_100 q_935 rfl (by decide) (by omega) (by decide) (by decide) (by decide) rfl ?_
                refine fm_top (congrArg Value.int (show Ma.1 586 50 = nI 1 from x6)) ?_
                refine fm_if_ne (tgt := 110) hc d_Mo_runAlone_103 rfl (fun _ => ?_) (fun gQ => absurd gQ (show ¬ nI 1 = 0 by decide))
                refine fm_iconst (v := nI 0) hc d_Mo_runAlone_110 rfl ?_
                refine fm_istore_n (lv' := [(2, .int (nI 0)), (0, .ref 586), (1, .int (nI i))]) hc d_Mo_runAlone_111 rfl (by decide) rfl ?_
                refine fm_goto (tgt := 63) hc d_Mo_runAlone_112 rfl ?_
                exact ih (0, P, he, W, none) _ ⟨x2, s1, e1.trans i3, i4', x3, (show P.1 3 + (k + 1) ≤ 200 by omega), xm, (by show (0 : Nat) ≤ 1; decide), x7, (fun K h e => nomatch e), fun _ e => absurd e (show ¬ (0 : Nat) = 1 by decide), fun _ _ => by rw [← i13, fa_next, if_neg (show ¬ (4 : Nat) = 1 by decide), if_neg (show ¬ (4 : Nat) = 2 by decide), if_neg (show ¬ (4 : Nat) = 3 by decide), if_neg (show ¬ (4 : Nat) = 0 by decide)]⟩
              · clear k3 s7
                refine fm_iload_n hc d_Mo_runAlone_63 rfl rfl ?_
                refine fm_if_eq (tgt := 115) hc d_Mo_runAlone_64 rfl (fun gQ => absurd gQ (show ¬ nI 1 = 0 by decide)) (fun _ => ?_)
                refine fm_aload_n hc d_Mo_runAlone_67 rfl rfl ?_
                refine fm_getI (k := 47) hc K_Mo d_Mo_runAlone_68 q_932 rfl (by decide) (by omega) (by decide) (by decide) (by decide) rfl ?_
                refine fm_top (congrArg Value.int (show Mi.1 586 47 = nI 0 from i9)) ?_
                refine fm_if_ne (tgt := 115) hc d_Mo_runAlone_71 rfl (fun gQ => absurd (by decide) gQ) (fun _ => ?_)
                refine fm_aload_n hc d_Mo_runAlone_74 rfl rfl ?_
                refine fm_getR (k := 22) (q := 607) hc K_Mo d_Mo_runAlone_75 q_907 rfl (by decide) (by omega) (by decide) (by decide) (by decide) rfl (rp_fuel hRi) ?_
                refine fm_bipush (v := nI 96) hc d_Mo_runAlone_78 rfl ?_
                refine fm_iald (j := 96) (len := 98) hc 0 d_Mo_runAlone_80 (by decide) (by omega) (by decide) rfl (by omega) (by decide) ?_
                refine fm_top (congrArg Value.int (show Mi.1 607 96 = nI (A.1 3) from hfu)) ?_
                refine fm_if_le (tgt := 115) hc d_Mo_runAlone_81 rfl (fun gQ => absurd gQ (fun q => g0 (by have := (nI_leI (a := A.1 3) (b := 0) (by omega) (by decide)).mp q; omega))) (fun _ => ?_)
                refine fm_aload_n hc d_Mo_runAlone_84 rfl rfl ?_
                refine fm_iconst (v := nI 0) hc d_Mo_runAlone_85 rfl ?_
                refine fm_putI (k := 48) (v := nI 0) hc K_Mo d_Mo_runAlone_86 q_933 rfl (by decide) (by omega) (by decide) (by decide) (by decide) rfl rfl rfl rfl ?_
                refine fm_mem (M' := fm_put1 Mi 586 48 (nI 0)) rfl rfl ?_
                refine fm_aload_n hc d_Mo_runAlone_89 rfl rfl ?_
                refine fm_bipush (v := nI 96) hc d_Mo_runAlone_90 rfl ?_
                refine fm_iconst (v := (-1)) hc d_Mo_runAlone_92 rfl ?_
                refine fm_callV (av := [.int (nI 96), .int ((-1))]) (rest := []) (ob := 586) (ci := 11) (r0 := ("AgentNetModel", F_Mo, 51)) (y := y_Mo_work) (bytes := b_Mo_work) hc fm_T0_good (fm_EX_st b x) hex q_1082 q_13 q_1079 q_1081 qs_Mo_work pd_Mo_work (by decide) (by omega) (by decide) (by decide) rfl rfl (hwork) ⟨rfl, rfl, Nat.le_of_ble_eq_true rfl, Nat.le_of_ble_eq_true rfl⟩ ⟨Nat.le_of_ble_eq_true rfl, Nat.le_of_ble_eq_true rfl⟩ d_Mo_runAlone_93 (Nat.le_of_ble_eq_true rfl) (fun r n2 M2 hp => ?_)
                obtain ⟨rfl, hq1, r1⟩ := hp
                replace hq1 := hq1.symm
                subst hq1
                revert r1
                generalize M2 = Ma
                intro r1
                replace r1 : rW_g 0 96 (fm_put1 Mi 586 48 (nI 0)) A (5, av, P) Ma := r1
                obtain ⟨x1, x2, x3, x4, x5, x6, x7, x8⟩ := rW_x (by omega) (by decide) r1
                have xm := fxR_tr x0 x1
                have hRa := fxR_RP x1 (fun q hq => hRi q hq)
                replace x3 : Ma.1 586 46 = nI he := x3.trans ((p1_at (by decide)).trans i5)
                replace x7 : Ma.1 586 47 = nI 0 := x7.trans ((p1_at (by decide)).trans i9)
                refine fm_cnt (z' := (0, 0)) rfl (fm_st (st' := [.int (nI 0)]) rfl ?_)
                refine fm_if_eq (tgt := 110) hc d_Mo_runAlone_96 rfl (fun _ => ?_) (fun gQ => absurd (by decide) gQ)
                refine fm_iconst (v := nI 0) hc d_Mo_runAlone_110 rfl ?_
                refine fm_istore_n (lv' := [(2, .int (nI 0)), (0, .ref 586), (1, .int (nI i))]) hc d_Mo_runAlone_111 rfl (by decide) rfl ?_
                refine fm_goto (tgt := 63) hc d_Mo_runAlone_112 rfl ?_
                exact ih (0, P, he, W, none) _ ⟨x2, s1, e1.trans i3, i4', x3, (show P.1 3 + (k + 1) ≤ 200 by omega), xm, (by show (0 : Nat) ≤ 1; decide), x7, (fun K h e => nomatch e), fun _ e => absurd e (show ¬ (0 : Nat) = 1 by decide), fun _ _ => by rw [← i13, fa_next, if_neg (show ¬ (5 : Nat) = 1 by decide), if_neg (show ¬ (5 : Nat) = 2 by decide), if_neg (show ¬ (5 : Nat) = 3 by decide), if_neg (show ¬ (5 : Nat) = 0 by decide)]⟩
          · have i9b : Mi.1 586 47 = nI 1 := i9.trans (by rw [hcc]; rfl)
            refine fm_iload_n hc d_Mo_runAlone_63 rfl rfl ?_
            refine fm_if_eq (tgt := 115) hc d_Mo_runAlone_64 rfl (fun gQ => absurd gQ (show ¬ nI 1 = 0 by decide)) (fun _ => ?_)
            refine fm_aload_n hc d_Mo_runAlone_67 rfl rfl ?_
            refine fm_getI (k := 47) hc K_Mo d_Mo_runAlone_68 q_932 rfl (by decide) (by omega) (by decide) (by decide) (by decide) rfl ?_
            refine fm_top (congrArg Value.int (show Mi.1 586 47 = nI 1 from i9b)) ?_
            refine fm_if_ne (tgt := 115) hc d_Mo_runAlone_71 rfl (fun _ => ?_) (fun gQ => absurd gQ (show ¬ nI 1 = 0 by decide))
            exact tail (fun e => by rw [hcc] at e; exact nomatch e)
    · obtain ⟨on, A, he, W, c⟩ := t
      obtain ⟨⟨gg, i1⟩, i2, i3, i4', i5, i6, i7, i8, i9, i10, i11, i12⟩ := hI
      replace i1 : hr_G Mi 96 F_f A gg := i1
      replace i2 : ag_wf (i % 4) A := i2
      replace i3 : A.1 1 = p0 := i3
      replace i4' : he < 4 := i4'
      replace i5 : Mi.1 586 46 = nI he := i5
      replace i6 : A.1 3 + 200 ≤ 200 := i6
      replace i8 : on ≤ 1 := i8
      replace i9 : Mi.1 586 47 = nI (if c.isSome then 1 else 0) := i9
      replace i10 : (∀ K h, c = some (K, h) → h = he ∧ (∃ g', hr_G Mi 97 F_f K g') ∧ ag_wf i K ∧ K.1 1 = p0 ∧ K.1 5 = 0 ∧ RR.2 = some (K, h)) := i10
      replace i11 : c = none → on = 1 → fa_run sc tb (200 - 200) A he W none = RR := i11
      replace i12 : c = none → on = 0 → RR.2 = none := i12
      have hRi := fxR_RP i7 hR
      have hfu : Mi.1 607 96 = nI (A.1 3) := i1.1 3 (by decide) (by decide) ⟨by decide, by decide⟩
      refine fm_tail (T := c = none → RR.2 = none) (pc1 := 115) (lv1 := [(2, .int (nI on)), (0, .ref 586), (1, .int (nI i))]) (st1 := []) (n1 := n) (M1 := Mi) (z1 := (0, 0)) (fun hN => ?_) (fun tail => ?_)
      · rcases hc0 : c with _ | ⟨K, h⟩
        · refine fm_aload_n hc d_Mo_runAlone_115 rfl rfl ?_
          refine fm_getI (k := 47) hc K_Mo d_Mo_runAlone_116 q_932 rfl (by decide) (by omega) (by decide) (by decide) (by decide) rfl ?_
          refine fm_top (congrArg Value.int (show Mi.1 586 47 = nI 0 from (i9.trans (by rw [hc0]; rfl)))) ?_
          refine fm_if_eq (tgt := 128) hc d_Mo_runAlone_119 rfl (fun _ => ?_) (fun gQ => absurd (by decide) gQ)
          refine fm_aload_n hc d_Mo_runAlone_128 rfl rfl ?_
          refine fm_getI (k := 47) hc K_Mo d_Mo_runAlone_129 q_932 rfl (by decide) (by omega) (by decide) (by decide) (by decide) rfl ?_
          refine fm_top (congrArg Value.int (show Mi.1 586 47 = nI 0 from (i9.trans (by rw [hc0]; rfl)))) ?_
          exact fm_zret (ty := .boolean) hc hr (by first | rfl | decide) d_Mo_runAlone_132 (Nat.le_refl _) (Nat.le_refl _) ⟨by rw [hN hc0]; rfl, rfl, i7, fun W hW => by rw [hN hc0] at hW; exact (nomatch hW)⟩
        · obtain ⟨k1, ⟨g', k2⟩, k3, k4, k5, k6⟩ := i10 K h hc0
          refine fm_aload_n hc d_Mo_runAlone_115 rfl rfl ?_
          refine fm_getI (k := 47) hc K_Mo d_Mo_runAlone_116 q_932 rfl (by decide) (by omega) (by decide) (by decide) (by decide) rfl ?_
          refine fm_top (congrArg Value.int (show Mi.1 586 47 = nI 1 from (i9.trans (by rw [hc0]; rfl)))) ?_
          refine fm_if_eq (tgt := 128) hc d_Mo_runAlone_119 rfl (fun gQ => absurd gQ (by decide)) (fun _ => ?_)
          refine fm_aload_n hc d_Mo_runAlone_122 rfl rfl ?_
          refine fm_bipush (v := nI 97) hc d_Mo_runAlone_123 rfl ?_
          refine fm_callV (av := [.int (nI 97)]) (rest := []) (ob := 586) (ci := 11) (r0 := ("AgentNetModel", F_Mo, 51)) (y := y_Mo_runOn) (bytes := b_Mo_runOn) hc fm_T0_good (fm_EX_st b x) hex q_1278 q_13 q_1275 q_1277 qs_Mo_runOn pd_Mo_runOn (by decide) (by omega) (by decide) (by decide) rfl rfl (rc_runOn (gi := 97) (a := i) (A0 := K) (j := h) (p0 := p0) (sc := sc) (tb := tb) hn hRi (Or.inr rfl) (Or.inr ⟨rfl, by omega, hi⟩) (by omega) (by rw [k1]; exact i5) k2 k3 k4 hp0 (hsR_x i7 hs) (fun q hq k hk => by rw [i7.1.2.2.1 589 (by decide) (by decide)]; exact htb q hq k hk) k5) ⟨rfl, rfl, Nat.le_of_ble_eq_true rfl, Nat.le_of_ble_eq_true rfl⟩ ⟨Nat.le_of_ble_eq_true rfl, Nat.le_of_ble_eq_true rfl⟩ d_Mo_runAlone_125 (Nat.le_of_ble_eq_true rfl) (fun r n2 M2 hp => ?_)
          obtain ⟨rfl, hq1, e48, e16, ew, ex, e47⟩ := hp
          replace hq1 := hq1.symm
          subst hq1
          revert e48 e16 ew ex e47
          generalize M2 = Mg
          intro e48 e16 ew ex e47
          have b47 : Mg.1 586 47 = nI 1 := (e47 rfl).trans (i9.trans (by rw [hc0]; rfl))
          have hRg := fxR_RP (fxR_tr i7 ex) hR
          refine fm_cnt (z' := (0, 0)) rfl (fm_st (st' := []) rfl ?_)
          refine fm_aload_n hc d_Mo_runAlone_128 rfl rfl ?_
          refine fm_getI (k := 47) hc K_Mo d_Mo_runAlone_129 q_932 rfl (by decide) (by omega) (by decide) (by decide) (by decide) rfl ?_
          refine fm_top (congrArg Value.int (show Mg.1 586 47 = nI 1 from b47)) ?_
          exact fm_zret (ty := .boolean) hc hr (by first | rfl | decide) d_Mo_runAlone_132 (Nat.le_refl _) (Nat.le_refl _) ⟨by rw [k6]; rfl, rfl, fxR_tr i7 ex, fun W hW => by rw [k6] at hW; obtain rfl := Option.some.inj hW; exact ⟨e48, e16, ew⟩⟩
      · have g0 : A.1 3 = 0 := by omega
        rcases (show on = 0 ∨ on = 1 by omega) with rfl | rfl
        · refine fm_iload_n hc d_Mo_runAlone_63 rfl rfl ?_
          refine fm_if_eq (tgt := 115) hc d_Mo_runAlone_64 rfl (fun _ => ?_) (fun gQ => absurd (show nI 0 = 0 by decide) gQ)
          exact tail (fun e => i12 e rfl)
        · rcases hcc : c with _ | q0
          · have i9b : Mi.1 586 47 = nI 0 := i9.trans (by rw [hcc]; rfl)
            refine fm_iload_n hc d_Mo_runAlone_63 rfl rfl ?_
            refine fm_if_eq (tgt := 115) hc d_Mo_runAlone_64 rfl (fun gQ => absurd gQ (show ¬ nI 1 = 0 by decide)) (fun _ => ?_)
            refine fm_aload_n hc d_Mo_runAlone_67 rfl rfl ?_
            refine fm_getI (k := 47) hc K_Mo d_Mo_runAlone_68 q_932 rfl (by decide) (by omega) (by decide) (by decide) (by decide) rfl ?_
            refine fm_top (congrArg Value.int (show Mi.1 586 47 = nI 0 from i9b)) ?_
            refine fm_if_ne (tgt := 115) hc d_Mo_runAlone_71 rfl (fun gQ => absurd (by decide) gQ) (fun _ => ?_)
            refine fm_aload_n hc d_Mo_runAlone_74 rfl rfl ?_
            refine fm_getR (k := 22) (q := 607) hc K_Mo d_Mo_runAlone_75 q_907 rfl (by decide) (by omega) (by decide) (by decide) (by decide) rfl (rp_fuel hRi) ?_
            refine fm_bipush (v := nI 96) hc d_Mo_runAlone_78 rfl ?_
            refine fm_iald (j := 96) (len := 98) hc 0 d_Mo_runAlone_80 (by decide) (by omega) (by decide) rfl (by omega) (by decide) ?_
            refine fm_top (congrArg Value.int (show Mi.1 607 96 = nI (A.1 3) from hfu)) ?_
            refine fm_if_le (tgt := 115) hc d_Mo_runAlone_81 rfl (fun _ => ?_) (fun gQ => absurd (by rw [g0]; decide) gQ)
            refine tail (fun e => ?_)
            rw [← i11 hcc rfl, fa_stop g0]
          · have i9b : Mi.1 586 47 = nI 1 := i9.trans (by rw [hcc]; rfl)
            refine fm_iload_n hc d_Mo_runAlone_63 rfl rfl ?_
            refine fm_if_eq (tgt := 115) hc d_Mo_runAlone_64 rfl (fun gQ => absurd gQ (show ¬ nI 1 = 0 by decide)) (fun _ => ?_)
            refine fm_aload_n hc d_Mo_runAlone_67 rfl rfl ?_
            refine fm_getI (k := 47) hc K_Mo d_Mo_runAlone_68 q_932 rfl (by decide) (by omega) (by decide) (by decide) (by decide) rfl ?_
            refine fm_top (congrArg Value.int (show Mi.1 586 47 = nI 1 from i9b)) ?_
            refine fm_if_ne (tgt := 115) hc d_Mo_runAlone_71 rfl (fun _ => ?_) (fun gQ => absurd gQ (show ¬ nI 1 = 0 by decide))
            exact tail (fun e => by rw [hcc] at e; exact nomatch e)
