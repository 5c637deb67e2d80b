/-! THE FREE RUN: what an agent would say if nothing ever failed; the class follows it -/
section FMS
variable {p : Program} {l : Launch} {e : Env} {R : Room} {s : State} {m : MethodId} {args : Array Value} {below : List Frame} {meth : Method} {c : Code} {Q : State → Prop}
variable {lay : Nat → Nat × Nat} {nf : Nat → Nat} {fk : Nat → Nat → Nat} {cl : List vw_C} {b : Nat} {x : Nat → Nat} {D : va_G} {dA : Nat → ClassId} {nL : Nat}
variable {pc : Nat} {st : List Value} {n : Nat} {z : Nat × Nat}
/-- a loop whose locals change with a state of its own -/
theorem fm_loopS {σ : Type} (N : Nat) (lv : Nat → σ → List (Nat × Value)) (I : Nat → σ → fm_M → Prop) (step : ∀ k t M, k < N → I k t M → (∀ t' M', I (k + 1) t' M' → fm_G p l e R s m args below meth c Q lay nf fk cl b x D dA nL pc (lv (k + 1) t') st n M' z) → fm_G p l e R s m args below meth c Q lay nf fk cl b x D dA nL pc (lv k t) st n M z) (fin : ∀ t M, I N t M → fm_G p l e R s m args below meth c Q lay nf fk cl b x D dA nL pc (lv N t) st n M z) {t0 : σ} {M : fm_M} (h0 : I 0 t0 M) : fm_G p l e R s m args below meth c Q lay nf fk cl b x D dA nL pc (lv 0 t0) st n M z := by
  have key : ∀ d k t M, k + d = N → I k t M → fm_G p l e R s m args below meth c Q lay nf fk cl b x D dA nL pc (lv k t) st n M z := by
    intro d
    induction d with
    | zero => intro k t M hk hI; obtain rfl : k = N := by omega
              exact fin t M hI
    | succ d ih => intro k t M hk hI; exact step k t M (by omega) hI (fun t' M' h' => ih (k + 1) t' M' (by omega) h')
  exact key N 0 t0 M (by omega) h0
end FMS
abbrev fa_C : Type := Option (ag_T × Nat)
def fa_next (f : ag_T → Nat → List Int32 → fa_C → List Int32 × fa_C) (A : ag_T) (h : Nat) (W : List Int32) (c : fa_C) (st : Nat × Int32 × ag_T) : List Int32 × fa_C :=
  if st.1 = 1 then f st.2.2 h (W ++ [st.2.1]) c else if st.1 = 2 then f st.2.2 st.2.1.toInt.toNat W c else if st.1 = 3 then f st.2.2 h W (some (ag_kidOf A st.2.1.toInt.toNat, h)) else if st.1 = 0 then f st.2.2 h W c else (W, c)
def fa_run (sc : List Nat) (tb : Nat → Nat → Int32) : Nat → ag_T → Nat → List Int32 → fa_C → List Int32 × fa_C
  | 0, _, _, W, c => (W, c)
  | k + 1, A, h, W, c => if A.1 3 = 0 then (W, c) else fa_next (fa_run sc tb k) A h W c (ag_step sc (tb h) h A)
theorem fa_stop {sc : List Nat} {tb : Nat → Nat → Int32} {k h : Nat} {A : ag_T} {W : List Int32} {c : fa_C} (h0 : A.1 3 = 0) : fa_run sc tb k A h W c = (W, c) := by
  cases k with
  | zero => rfl
  | succ k => exact if_pos h0
theorem fa_go {sc : List Nat} {tb : Nat → Nat → Int32} {k h : Nat} {A : ag_T} {W : List Int32} {c : fa_C} (h0 : ¬ A.1 3 = 0) : fa_run sc tb (k + 1) A h W c = fa_next (fa_run sc tb k) A h W c (ag_step sc (tb h) h A) := if_neg h0
theorem do_1 {c y he : Nat} {tbl : Nat → Int32} {N : Nat → Nat} {s : List bf_V} {p : List (bf_V × bf_V)} {lo up : bf_V} : (ag_do c y tbl he N s p lo up).2.2.1 1 = N 1 := by
  unfold ag_do
  split <;> (try split) <;> simp [va_up]
theorem step_1 {sc : List Nat} {tbl : Nat → Int32} {he : Nat} {A : ag_T} : (ag_step sc tbl he A).2.2.1 1 = A.1 1 := by
  unfold ag_step
  simp only
  split
  · simp [va_up]
  · split
    · show (ag_do _ _ _ _ _ _ _ _ _).2.2.1 1 = _
      rw [do_1]
      simp [va_up]
    · simp [va_up]
theorem kid_1 {A : ag_T} {w : Nat} : (ag_kidOf A w).1 1 = A.1 1 ∧ (ag_kidOf A w).1 5 = 0 ∧ (ag_kidOf A w).1 7 = 0 := by
  refine ⟨?_, ?_, ?_⟩
  · show (ag_kid (va_up (va_up A.1 3 (A.1 3 - 1)) 2 (A.1 2 + 1), A.2.1.take (A.2.1.length - 1), A.2.2) w).1 1 = _
    simp [ag_kid, va_up]
  · show (ag_kid (va_up (va_up A.1 3 (A.1 3 - 1)) 2 (A.1 2 + 1), A.2.1.take (A.2.1.length - 1), A.2.2) w).1 5 = _
    simp [ag_kid, va_up]
  · show (ag_kid (va_up (va_up A.1 3 (A.1 3 - 1)) 2 (A.1 2 + 1), A.2.1.take (A.2.1.length - 1), A.2.2) w).1 7 = _
    simp [ag_kid, va_up]
/-- the pointers of the free run -/
def fp_F (M : fm_M) : Prop := M.2.2 69 0 = some 70 ∧ M.2.2 69 1 = some 73 ∧ M.2.2 69 2 = some 74 ∧ M.2.2 69 3 = some 78 ∧ sy_P M 70 ∧ tr_P M 74 ∧ tr_P M 78
theorem fpF_of {M M' : fm_M} (e : M'.2.2 = M.2.2) (h : fp_F M) : fp_F M' := by
  unfold fp_F sy_P tr_P at *
  rw [e]
  exact h
def fr_X (M M' : fm_M) : Prop := M'.2.2 = M.2.2 ∧ ∀ q, (q < 60 ∨ (66 ≤ q ∧ q ≤ 68) ∨ 82 ≤ q) → M'.1 q = M.1 q ∧ M'.2.1 q = M.2.1 q
theorem frX_rf (M : fm_M) : fr_X M M := ⟨rfl, fun _ _ => ⟨rfl, rfl⟩⟩
theorem frX_tr {M M1 M2 : fm_M} (h : fr_X M M1) (g : fr_X M1 M2) : fr_X M M2 := ⟨g.1.trans h.1, fun q a => ⟨(g.2 q a).1.trans (h.2 q a).1, (g.2 q a).2.trans (h.2 q a).2⟩⟩
theorem frX_P {tr : Nat} {M M' : fm_M} (ht : tr = 74 ∨ tr = 78) (f : fr_P tr M M') : fr_X M M' := ⟨f.1, fun q a => ⟨f.2.1 q (by omega) (by omega), f.2.2 q (by omega) (by omega) (by omega) (by omega)⟩⟩
theorem trL_74 {n : Nat} (hn : 586 ≤ n) : tr_L n 74 := ⟨by decide, by omega, by decide, by decide, by decide, by decide⟩
theorem trL_78 {n : Nat} (hn : 586 ≤ n) : tr_L n 78 := ⟨by decide, by omega, by decide, by decide, by decide, by decide⟩
theorem lo_or : ∀ c, c < 16 → bw_lo c ||| (nI 1 <<< (nI c &&& 31)) = bw_lo (c + 1) := by decide +kernel
theorem hcL_put {o a : Nat} {C : Nat → Nat} {V0 : Nat → Nat → Int32} {W : List Int32} {v : Int32} {M : fm_M} (ha : a < 8) (hl : W.length < 16) (h : hc_L M o (va_up C a W.length) (va_up V0 a (fun i => W.getD i 0))) : hc_L (m_sayG M o a W.length v) o (va_up C a (W ++ [v]).length) (va_up V0 a (fun i => (W ++ [v]).getD i 0)) := by
  intro c hc
  obtain ⟨h1, h2, h3⟩ := h c hc
  unfold m_sayG
  by_cases g : c = a
  · subst g
    rw [fm_upS] at h1 h2 h3
    rw [fm_upS] at h3
    rw [fm_upS, fm_upS, List.length_append]
    refine ⟨hl, ?_, fun i hi => ?_⟩
    · rw [p1_other (by omega), p1_same, h2]
      exact lo_or _ hl
    · by_cases e : i = W.length
      · subst e
        rw [p1_same]
        simp
      · have hi' : i < W.length := by simp at hi; omega
        rw [p1_at (by omega), p1_other (by omega), h3 i hi']
        simp [List.getElem?_append_left hi']
  · rw [fm_upN g] at h1 h2 h3
    rw [fm_upN g] at h3
    rw [fm_upN g, fm_upN g]
    refine ⟨h1, ?_, fun i hi => ?_⟩
    · rw [p1_other (by omega), p1_at g]; exact h2
    · rw [p1_at (by omega), p1_other (by omega)]; exact h3 i hi
theorem hcL_of {o : Nat} {M M' : fm_M} {C : Nat → Nat} {V0 : Nat → Nat → Int32} (e1 : M'.1 (o + 1) = M.1 (o + 1)) (e2 : M'.1 (o + 2) = M.1 (o + 2)) (h : hc_L M o C V0) : hc_L M' o C V0 := by
  intro a ha
  rw [e1, e2]
  exact h a ha
/-- what the class holds of a child of the free run -/
def fa_K (a p0 : Nat) (M : fm_M) (c : fa_C) : Prop := ∀ K h, c = some (K, h) → a < 4 ∧ hc_A M 78 K ∧ M.1 69 4 = nI h ∧ h < 4 ∧ ag_wf (a + 4) K ∧ K.1 1 = p0 ∧ K.1 5 = 0 ∧ K.1 7 = 0
theorem faK_0 {a p0 : Nat} {M : fm_M} : fa_K a p0 M none := fun K h e => nomatch e
theorem faK_of {a p0 : Nat} {M M' : fm_M} {c : fa_C} (f : a < 4 → (∀ K, hc_A M 78 K → hc_A M' 78 K) ∧ M'.1 69 4 = M.1 69 4) (h : fa_K a p0 M c) : fa_K a p0 M' c := fun K h' e => by
  obtain ⟨k1, k2, k3, k4⟩ := h K h' e
  exact ⟨k1, (f k1).1 K k2, (f k1).2.trans k3, k4⟩
def fa_P (a p0 tr : Nat) (C : Nat → Nat) (V0 : Nat → Nat → Int32) (M M' : fm_M) (R : List Int32 × fa_C) : Prop := hc_L M' 70 (va_up C a R.1.length) (va_up V0 a (fun i => R.1.getD i 0)) ∧ M'.1 73 a = nI 1 ∧ (∀ c, c ≠ a → M'.1 73 c = M.1 73 c) ∧ (a < 4 → M'.1 tr 7 = nI (if R.2.isSome then 1 else 0)) ∧ fa_K a p0 M' R.2 ∧ fr_X M M'

theorem hsS_X {M M' : fm_M} {p0 : Nat} {sc : List Nat} (hp : p0 < 4) (f : fr_X M M') (h : hs_S M p0 sc) : hs_S M' p0 sc := by
  unfold hs_S at *
  rw [f.1, (f.2 (82 + 2 * p0) (by omega)).1, (f.2 (83 + 2 * p0) (by omega)).1]
  exact h
theorem c_frun {l : Launch} {b : Nat} {x : Nat → Nat} {D : va_G} {dA : Nat → ClassId} {tr a p0 j n : Nat} {A0 : ag_T} {sc : List Nat} {tb : Nat → Nat → Int32} {C : Nat → Nat} {V0 : Nat → Nat → Int32} {M : fm_M} (hn : 586 ≤ n) (hA : fm_AP M) (hN : fm_NP M) (hF : fp_F M) (hj : j < 4) (htr : (tr = 74 ∧ a < 4) ∨ (tr = 78 ∧ 4 ≤ a ∧ a < 8)) (h : hc_A M tr A0) (hw : ag_wf a A0) (h1 : A0.1 1 = p0) (hp0 : p0 < 4) (hs : hs_S M p0 sc) (htb : ∀ q, q < 4 → ∀ k, k < 8 → M.1 (11 + q) k = tb q k) (h5 : A0.1 5 = 0) (h7 : A0.1 7 = 0) (hl : hc_L M 70 C V0) (hC : C a = 0) : Met l y_Fr_runAlone (Cond.code y_Fr_runAlone b_Fr_runAlone 9 none :: fm_T0) ({ frames := 4, cells := 0, slots := 0, locals := 200 }) (fm_Pc fm_lay fm_nf fm_fk fm_cl b x D dA (fm_tys dA) (fm_EX b x) false [.ref 69, .ref tr, .int (nI j), .ref 60, .ref (82 + 2 * p0), .ref 10] n M) (fm_Qc fm_lay fm_nf fm_fk fm_cl b x D dA (fun r n' M' => r = none ∧ n' = n ∧ fa_P a p0 tr C V0 M M' (fa_run sc tb 200 A0 j [] none))) 0 0 (fm_A b) := by
  refine fm_enter (by decide) (Nat.le_of_ble_eq_true rfl) ?_
  intro p e s m args below meth c9 hc hr hnm hex htg
  have ha : a < 8 := by omega
  have ht : tr = 74 ∨ tr = 78 := by omega
  have hT : tr_L n tr := by
    rcases ht with e | e
    · rw [e]; exact trL_74 hn
    · rw [e]; exact trL_78 hn
  have tP : ∀ Mx : fm_M, Mx.2.2 = M.2.2 → tr_P Mx tr := fun Mx e => by
    have hx := fpF_of e hF
    rcases ht with q | q
    · rw [q]; exact hx.2.2.2.2.2.1
    · rw [q]; exact hx.2.2.2.2.2.2
  have t8 := hT.1
  have tn := hT.2.1
  have hsb : ∀ k v : Nat, sc[k]? = some v → v < 256 := fun k v hv => (hs.2.2.2 k v hv).2
  have hsl : sc.length ≤ 48 := hs.2.1
  have num : M.1 tr 0 = nI a := (h.1 0 (by decide)).trans (congrArg nI hw.2.2.1)
  refine fm_iload_n hc d_Fr_runAlone_0 rfl rfl ?_
  refine fm_istore (lv' := [(6, .int (nI j)), (0, .ref 69), (1, .ref tr), (2, .int (nI j)), (3, .ref 60), (4, .ref (82 + 2 * p0)), (5, .ref 10)]) hc d_Fr_runAlone_1 (by decide) rfl ?_
  refine fm_aload_n hc d_Fr_runAlone_3 rfl rfl ?_
  refine fm_getR (k := 1) (q := 73) hc K_Fr d_Fr_runAlone_4 q_258 rfl (by decide) (by omega) (by decide) (by decide) (by decide) rfl hF.2.1 ?_
  refine fm_aload_n hc d_Fr_runAlone_7 rfl rfl ?_
  refine fm_getI (k := 0) hc K_Tr d_Fr_runAlone_8 q_172 rfl (by omega) (by omega) hT.2.2.1 (by decide) (by decide) rfl ?_
  refine fm_top (congrArg Value.int (show M.1 tr 0 = nI a from num)) ?_
  refine fm_iconst (v := nI 1) hc d_Fr_runAlone_11 rfl ?_
  refine fm_zast (j := a) (len := 8) (v := nI 1) hc 1 d_Fr_runAlone_12 (by decide) (by omega) (by decide) rfl (by omega) (by decide) ?_
  refine fm_mem (M' := fm_put1 M 73 a (nI 1)) rfl rfl ?_
  refine fm_iconst (v := nI 0) hc d_Fr_runAlone_13 rfl ?_
  refine fm_istore (lv' := [(7, .int (nI 0)), (6, .int (nI j)), (0, .ref 69), (1, .ref tr), (2, .int (nI j)), (3, .ref 60), (4, .ref (82 + 2 * p0)), (5, .ref 10)]) hc d_Fr_runAlone_14 (by decide) rfl ?_
  refine fm_dropl (lv' := [(7, .int (nI 0)), (6, .int (nI j)), (0, .ref 69), (1, .ref tr), (2, .int (nI j)), (3, .ref 60), (4, .ref (82 + 2 * p0)), (5, .ref 10)]) (by simp) ?_
  obtain ⟨RR, hRR⟩ : ∃ RR, RR = (fa_run sc tb 200 A0 j [] none) := ⟨_, rfl⟩
  rw [← hRR]
  have hv0 : va_up C a 0 = C := va_same hC
  have hI0 : hc_A (fm_put1 M 73 a (nI 1)) tr A0 ∧ ag_wf a A0 ∧ A0.1 1 = p0 ∧ j < 4 ∧ ([] : List Int32).length = A0.1 5 ∧ hc_L (fm_put1 M 73 a (nI 1)) 70 (va_up C a ([] : List Int32).length) (va_up V0 a (fun i => ([] : List Int32).getD i 0)) ∧ (fm_put1 M 73 a (nI 1)).1 73 a = nI 1 ∧ (∀ c, c ≠ a → (fm_put1 M 73 a (nI 1)).1 73 c = M.1 73 c) ∧ (a < 4 → A0.1 7 = if (none : fa_C).isSome then 1 else 0) ∧ fa_K a p0 (fm_put1 M 73 a (nI 1)) none ∧ fr_X M (fm_put1 M 73 a (nI 1)) ∧ fa_run sc tb (200 - 0) A0 j [] none = RR := by
    refine ⟨hcA_o1 (by omega) h, hw, h1, hj, h5.symm, fun c hc => ?_, p1_same _ _ _ _, fun c hc => p1_at hc, fun _ => h7, faK_0, ⟨rfl, fun q a => ⟨funext fun i => p1_other (by omega), rfl⟩⟩, hRR.symm⟩
    have q := hl c hc
    by_cases g : c = a
    · subst g
      rw [List.length_nil, fm_upS]
      rw [hC] at q
      exact ⟨q.1, q.2.1, fun i hi => absurd hi (Nat.not_lt_zero i)⟩
    · rw [fm_upN g, fm_upN g]
      exact q
  refine fm_loopS (σ := ag_T × Nat × List Int32 × fa_C) (N := 200) (lv := fun i t => [(7, .int (nI i)), (6, .int (nI t.2.1)), (0, .ref 69), (1, .ref tr), (2, .int (nI j)), (3, .ref 60), (4, .ref (82 + 2 * p0)), (5, .ref 10)]) (I := fun i t M' => hc_A M' tr t.1 ∧ ag_wf a t.1 ∧ t.1.1 1 = p0 ∧ t.2.1 < 4 ∧ t.2.2.1.length = t.1.1 5 ∧ hc_L M' 70 (va_up C a t.2.2.1.length) (va_up V0 a (fun i => t.2.2.1.getD i 0)) ∧ M'.1 73 a = nI 1 ∧ (∀ c, c ≠ a → M'.1 73 c = M.1 73 c) ∧ (a < 4 → t.1.1 7 = if t.2.2.2.isSome then 1 else 0) ∧ fa_K a p0 M' t.2.2.2 ∧ fr_X M M' ∧ fa_run sc tb (200 - i) t.1 t.2.1 t.2.2.1 t.2.2.2 = RR) (fun i t Mi hi hI ih => ?_) (fun t Mi hI => ?_) (t0 := (A0, j, [], none)) hI0
  · obtain ⟨A, he, W, c⟩ := t
    obtain ⟨i1, i2, i3, i4, i5, i6, i7, i8, i9, i10, i11, i12⟩ := hI
    have i1 : hc_A Mi tr A := i1
    have i2 : ag_wf a A := i2
    have i3 : A.1 1 = p0 := i3
    have i4 : he < 4 := i4
    have i5 : W.length = A.1 5 := i5
    have i12 : fa_run sc tb (200 - i) A he W c = RR := i12
    have hAi := AP_of i11.1 hA
    have hNi := NP_of i11.1 hN
    have hFi := fpF_of i11.1 hF
    have w6 : A.1 4 + A.1 3 ≤ 200 := i2.2.2.2.2.2.1
    have hfu : Mi.1 tr 3 = nI (A.1 3) := i1.1 3 (by decide)
    by_cases g0 : A.1 3 = 0
    · refine fm_iload hc d_Fr_runAlone_16 rfl ?_
      refine fm_sipush (v := nI 200) hc d_Fr_runAlone_18 rfl ?_
      refine fm_icmp_ge (tgt := 135) hc d_Fr_runAlone_21 rfl (fun gQ => absurd gQ (hnleB (a := 200) (c := i) hi (by omega))) (fun _ => ?_)
      refine fm_aload_n hc d_Fr_runAlone_24 rfl rfl ?_
      refine fm_getI (k := 3) hc K_Tr d_Fr_runAlone_25 q_185 rfl (by omega) (by omega) hT.2.2.1 (by decide) (by decide) rfl ?_
      refine fm_top (congrArg Value.int (show Mi.1 tr 3 = nI (A.1 3) from hfu)) ?_
      refine fm_if_le (tgt := 135) hc d_Fr_runAlone_28 rfl (fun _ => ?_) (fun gQ => absurd (by rw [g0]; decide) gQ)
      exact fm_vret hc hr d_Fr_runAlone_135 (Nat.le_refl _) (Nat.le_refl _) ⟨rfl, rfl, by rw [← i12, fa_stop g0]; exact ⟨i6, i7, i8, fun q => (i1.1 7 (by decide)).trans (congrArg nI (i9 q)), i10, i11⟩⟩
    · have e200 : 200 - i = (200 - (i + 1)) + 1 := by omega
      rw [e200, fa_go g0] at i12
      have hperf := c_perform (l := l) (b := b) (x := x) (D := D) (dA := dA) (n := n) (M := Mi) (tr := tr) (p0 := p0) (tb := 11 + he) (he := he) (A := A) (sc := sc) (tbl := tb he) hn hT (by omega) (tP Mi i11.1) hNi i1 i2.1 hp0 (hsS_X hp0 i11 hs) ⟨by omega, by omega, ly_tb i4, fun k hk => by rw [(i11.2 (11 + he) (by omega)).1]; exact htb he i4 k hk⟩ (by rw [i2.2.2.1]; omega) (by have := i2.2.2.2.2.1; omega) (by omega) (by omega) (by have := i2.2.2.2.2.2.2.1; omega) i2.2.2.2.2.2.2.2.2
      obtain ⟨s1, s2, s3, s4, s5, s6, s7⟩ := step_wf (he := he) (tbl := tb he) i2 (by omega) hsb hsl
      have k3 := kid_wf (he := he) (tbl := tb he) i2 (by omega) hsb hsl
      have hk := kid_eq (sc := sc) (tbl := tb he) (he := he) (A := A)
      have e1 := step_1 (sc := sc) (tbl := tb he) (he := he) (A := A)
      generalize (ag_step sc (tb he) he A) = st at *
      obtain ⟨ak, av, P⟩ := st
      have s2 : ak ≤ 5 := s2
      have s1 : ag_wf a P := s1
      have e1 : P.1 1 = A.1 1 := e1
      have s3 : P.1 5 = if ak = 1 then A.1 5 + 1 else A.1 5 := s3
      have s6 : P.1 7 = if ak = 3 then 1 else A.1 7 := s6
      rcases (show ak = 0 ∨ ak = 1 ∨ ak = 2 ∨ ak = 3 ∨ ak = 4 ∨ ak = 5 by omega) with rfl | rfl | rfl | rfl | rfl | rfl
      · clear s7 k3 hk
        refine fm_iload hc d_Fr_runAlone_16 rfl ?_
        refine fm_sipush (v := nI 200) hc d_Fr_runAlone_18 rfl ?_
        refine fm_icmp_ge (tgt := 135) hc d_Fr_runAlone_21 rfl (fun gQ => absurd gQ (hnleB (a := 200) (c := i) hi (by omega))) (fun _ => ?_)
        refine fm_aload_n hc d_Fr_runAlone_24 rfl rfl ?_
        refine fm_getI (k := 3) hc K_Tr d_Fr_runAlone_25 q_185 rfl (by omega) (by omega) hT.2.2.1 (by decide) (by decide) rfl ?_
        refine fm_top (congrArg Value.int (show Mi.1 tr 3 = nI (A.1 3) from hfu)) ?_
        refine fm_if_le (tgt := 135) hc d_Fr_runAlone_28 rfl (fun gQ => absurd gQ (fun q => g0 (by have := (nI_leI (a := A.1 3) (b := 0) (by omega) (by decide)).mp q; omega))) (fun _ => ?_)
        refine fm_aload_n hc d_Fr_runAlone_31 rfl rfl ?_
        refine fm_aload_n hc d_Fr_runAlone_32 rfl rfl ?_
        refine fm_aload hc d_Fr_runAlone_33 rfl ?_
        refine fm_aload hc d_Fr_runAlone_35 rfl ?_
        refine fm_iload hc d_Fr_runAlone_37 rfl ?_
        refine fm_aaldA (q := 11 + he) (j := he) (len := 4) hc 8 d_Fr_runAlone_39 (by decide) (by omega) (by decide) (by decide) rfl (by omega) (by decide) (ap_tab hAi i4) ?_
        refine fm_iload hc d_Fr_runAlone_40 rfl ?_
        refine fm_callV (av := [.ref tr, .ref (82 + 2 * p0), .ref (11 + he), .int (nI he)]) (rest := []) (ob := 60) (ci := 10) (r0 := ("AgentNet$Processor", F_Pr, 6)) (y := y_Pr_perform) (bytes := b_Pr_perform) hc fm_T0_good (fm_EX_st b x) hex q_594 q_4 q_591 q_592 q_593 pd_Pr_perform (by decide) (by omega) (by decide) (by decide) rfl rfl (hperf) ⟨rfl, rfl, Nat.le_of_ble_eq_true rfl, Nat.le_of_ble_eq_true rfl⟩ ⟨Nat.le_of_ble_eq_true rfl, Nat.le_of_ble_eq_true rfl⟩ d_Fr_runAlone_42 (Nat.le_of_ble_eq_true rfl) (fun r n2 M2 hp => ?_)
        obtain ⟨rfl, hq1, r1, r2, r3⟩ := hp
        replace hq1 := hq1.symm
        subst hq1
        revert r1 r2 r3
        generalize M2 = Ma
        intro r1 r2 r3
        have x1 : fr_X M Ma := frX_tr i11 (frX_P ht r2)
        have r1 : hc_A Ma tr P := r1
        have l1 : hc_L Ma 70 (va_up C a W.length) (va_up V0 a (fun i => W.getD i 0)) := hcL_of (r2.2.1 71 (by omega) (by omega)) (r2.2.1 72 (by omega) (by omega)) i6
        have m1 : Ma.1 73 a = nI 1 := by rw [r2.2.1 73 (by omega) (by omega)]; exact i7
        have m2 : ∀ c, c ≠ a → Ma.1 73 c = M.1 73 c := fun c hc => by rw [r2.2.1 73 (by omega) (by omega)]; exact i8 c hc
        have k1 : fa_K a p0 Ma c := faK_of (fun h4 => ⟨fun K hK => hcA_P (by omega) (by omega) hK r2, by rw [r2.2.1 69 (by omega) (by omega)]⟩) i10
        have hFa := fpF_of x1.1 hF
        refine fm_cnt (z' := (0, 0)) rfl (fm_st (st' := [.int (nI 0)]) rfl ?_)
        refine fm_istore (lv' := [(8, .int (nI 0)), (7, .int (nI i)), (6, .int (nI he)), (0, .ref 69), (1, .ref tr), (2, .int (nI j)), (3, .ref 60), (4, .ref (82 + 2 * p0)), (5, .ref 10)]) hc d_Fr_runAlone_45 (by decide) rfl ?_
        refine fm_iload hc d_Fr_runAlone_47 rfl ?_
        refine fm_iconst (v := nI 4) hc d_Fr_runAlone_49 rfl ?_
        refine fm_icmp_eq (tgt := 59) hc d_Fr_runAlone_50 rfl (fun gQ => absurd gQ (by decide)) (fun _ => ?_)
        refine fm_iload hc d_Fr_runAlone_53 rfl ?_
        refine fm_iconst (v := nI 5) hc d_Fr_runAlone_55 rfl ?_
        refine fm_icmp_ne (tgt := 60) hc d_Fr_runAlone_56 rfl (fun _ => ?_) (fun gQ => absurd gQ (by decide))
        refine fm_iload hc d_Fr_runAlone_60 rfl ?_
        refine fm_iconst (v := nI 1) hc d_Fr_runAlone_62 rfl ?_
        refine fm_icmp_ne (tgt := 90) hc d_Fr_runAlone_63 rfl (fun _ => ?_) (fun gQ => absurd gQ (by decide))
        refine fm_iload hc d_Fr_runAlone_90 rfl ?_
        refine fm_iconst (v := nI 2) hc d_Fr_runAlone_92 rfl ?_
        refine fm_icmp_ne (tgt := 105) hc d_Fr_runAlone_93 rfl (fun _ => ?_) (fun gQ => absurd gQ (by decide))
        refine fm_iload hc d_Fr_runAlone_105 rfl ?_
        refine fm_iconst (v := nI 3) hc d_Fr_runAlone_107 rfl ?_
        refine fm_icmp_ne (tgt := 129) hc d_Fr_runAlone_108 rfl (fun _ => ?_) (fun gQ => absurd gQ (by decide))
        refine fm_iinc (v := nI (i + 1)) (lv' := [(7, .int (nI (i + 1))), (8, .int (nI 0)), (6, .int (nI he)), (0, .ref 69), (1, .ref tr), (2, .int (nI j)), (3, .ref 60), (4, .ref (82 + 2 * p0)), (5, .ref 10)]) hc d_Fr_runAlone_129 rfl (nI_1 i) (by decide) rfl ?_
        refine fm_goto (tgt := 16) hc d_Fr_runAlone_132 rfl ?_
        refine fm_dropl (lv' := [(7, .int (nI (i + 1))), (6, .int (nI he)), (0, .ref 69), (1, .ref tr), (2, .int (nI j)), (3, .ref 60), (4, .ref (82 + 2 * p0)), (5, .ref 10)]) (by simp) ?_
        exact ih (P, he, W, c) _ ⟨r1, s1, e1.trans i3, i4, i5.trans (by rw [s3, if_neg (by decide)]), l1, m1, m2, fun q => by rw [show P.1 7 = A.1 7 by rw [s6, if_neg (by decide)]]; exact i9 q, k1, x1, by rw [← i12, fa_next, if_neg (show ¬ (0 : Nat) = 1 by decide), if_neg (show ¬ (0 : Nat) = 2 by decide), if_neg (show ¬ (0 : Nat) = 3 by decide), if_pos (show (0 : Nat) = 0 from rfl)]⟩
      · clear s7 k3 hk
        refine fm_iload hc d_Fr_runAlone_16 rfl ?_
        refine fm_sipush (v := nI 200) hc d_Fr_runAlone_18 rfl ?_
        refine fm_icmp_ge (tgt := 135) hc d_Fr_runAlone_21 rfl (fun gQ => absurd gQ (hnleB (a := 200) (c := i) hi (by omega))) (fun _ => ?_)
        refine fm_aload_n hc d_Fr_runAlone_24 rfl rfl ?_
        refine fm_getI (k := 3) hc K_Tr d_Fr_runAlone_25 q_185 rfl (by omega) (by omega) hT.2.2.1 (by decide) (by decide) rfl ?_
        refine fm_top (congrArg Value.int (show Mi.1 tr 3 = nI (A.1 3) from hfu)) ?_
        refine fm_if_le (tgt := 135) hc d_Fr_runAlone_28 rfl (fun gQ => absurd gQ (fun q => g0 (by have := (nI_leI (a := A.1 3) (b := 0) (by omega) (by decide)).mp q; omega))) (fun _ => ?_)
        refine fm_aload_n hc d_Fr_runAlone_31 rfl rfl ?_
        refine fm_aload_n hc d_Fr_runAlone_32 rfl rfl ?_
        refine fm_aload hc d_Fr_runAlone_33 rfl ?_
        refine fm_aload hc d_Fr_runAlone_35 rfl ?_
        refine fm_iload hc d_Fr_runAlone_37 rfl ?_
        refine fm_aaldA (q := 11 + he) (j := he) (len := 4) hc 8 d_Fr_runAlone_39 (by decide) (by omega) (by decide) (by decide) rfl (by omega) (by decide) (ap_tab hAi i4) ?_
        refine fm_iload hc d_Fr_runAlone_40 rfl ?_
        refine fm_callV (av := [.ref tr, .ref (82 + 2 * p0), .ref (11 + he), .int (nI he)]) (rest := []) (ob := 60) (ci := 10) (r0 := ("AgentNet$Processor", F_Pr, 6)) (y := y_Pr_perform) (bytes := b_Pr_perform) hc fm_T0_good (fm_EX_st b x) hex q_594 q_4 q_591 q_592 q_593 pd_Pr_perform (by decide) (by omega) (by decide) (by decide) rfl rfl (hperf) ⟨rfl, rfl, Nat.le_of_ble_eq_true rfl, Nat.le_of_ble_eq_true rfl⟩ ⟨Nat.le_of_ble_eq_true rfl, Nat.le_of_ble_eq_true rfl⟩ d_Fr_runAlone_42 (Nat.le_of_ble_eq_true rfl) (fun r n2 M2 hp => ?_)
        obtain ⟨rfl, hq1, r1, r2, r3⟩ := hp
        replace hq1 := hq1.symm
        subst hq1
        revert r1 r2 r3
        generalize M2 = Ma
        intro r1 r2 r3
        have x1 : fr_X M Ma := frX_tr i11 (frX_P ht r2)
        have r1 : hc_A Ma tr P := r1
        have l1 : hc_L Ma 70 (va_up C a W.length) (va_up V0 a (fun i => W.getD i 0)) := hcL_of (r2.2.1 71 (by omega) (by omega)) (r2.2.1 72 (by omega) (by omega)) i6
        have m1 : Ma.1 73 a = nI 1 := by rw [r2.2.1 73 (by omega) (by omega)]; exact i7
        have m2 : ∀ c, c ≠ a → Ma.1 73 c = M.1 73 c := fun c hc => by rw [r2.2.1 73 (by omega) (by omega)]; exact i8 c hc
        have k1 : fa_K a p0 Ma c := faK_of (fun h4 => ⟨fun K hK => hcA_P (by omega) (by omega) hK r2, by rw [r2.2.1 69 (by omega) (by omega)]⟩) i10
        have hFa := fpF_of x1.1 hF
        have e5 : P.1 5 = W.length + 1 := by rw [s3, if_pos rfl, i5]
        have l16 : W.length < 16 := by have q : P.1 5 ≤ 16 := s1.2.2.2.2.2.2.1; omega
        have nm : Ma.1 tr 0 = nI a := (r1.1 0 (by decide)).trans (congrArg nI s1.2.2.1)
        have sd : Ma.1 tr 5 = nI (W.length + 1) := (r1.1 5 (by decide)).trans (congrArg nI e5)
        have ask : Ma.1 60 5 = av := r3 (Or.inl rfl)
        refine fm_cnt (z' := (0, 0)) rfl (fm_st (st' := [.int (nI 1)]) rfl ?_)
        refine fm_istore (lv' := [(8, .int (nI 1)), (7, .int (nI i)), (6, .int (nI he)), (0, .ref 69), (1, .ref tr), (2, .int (nI j)), (3, .ref 60), (4, .ref (82 + 2 * p0)), (5, .ref 10)]) hc d_Fr_runAlone_45 (by decide) rfl ?_
        refine fm_iload hc d_Fr_runAlone_47 rfl ?_
        refine fm_iconst (v := nI 4) hc d_Fr_runAlone_49 rfl ?_
        refine fm_icmp_eq (tgt := 59) hc d_Fr_runAlone_50 rfl (fun gQ => absurd gQ (by decide)) (fun _ => ?_)
        refine fm_iload hc d_Fr_runAlone_53 rfl ?_
        refine fm_iconst (v := nI 5) hc d_Fr_runAlone_55 rfl ?_
        refine fm_icmp_ne (tgt := 60) hc d_Fr_runAlone_56 rfl (fun _ => ?_) (fun gQ => absurd gQ (by decide))
        refine fm_iload hc d_Fr_runAlone_60 rfl ?_
        refine fm_iconst (v := nI 1) hc d_Fr_runAlone_62 rfl ?_
        refine fm_icmp_ne (tgt := 90) hc d_Fr_runAlone_63 rfl (fun gQ => absurd (by decide) gQ) (fun _ => ?_)
        refine fm_aload_n hc d_Fr_runAlone_66 rfl rfl ?_
        refine fm_getR (k := 0) (q := 70) hc K_Fr d_Fr_runAlone_67 q_256 rfl (by decide) (by omega) (by decide) (by decide) (by decide) rfl hFa.1 ?_
        refine fm_aload_n hc d_Fr_runAlone_70 rfl rfl ?_
        refine fm_getI (k := 0) hc K_Tr d_Fr_runAlone_71 q_172 rfl (by omega) (by omega) hT.2.2.1 (by decide) (by decide) rfl ?_
        refine fm_top (congrArg Value.int (show Ma.1 tr 0 = nI a from nm)) ?_
        refine fm_aload_n hc d_Fr_runAlone_74 rfl rfl ?_
        refine fm_getI (k := 5) hc K_Tr d_Fr_runAlone_75 q_195 rfl (by omega) (by omega) hT.2.2.1 (by decide) (by decide) rfl ?_
        refine fm_top (congrArg Value.int (show Ma.1 tr 5 = nI (W.length + 1) from sd)) ?_
        refine fm_iconst (v := nI 1) hc d_Fr_runAlone_78 rfl ?_
        refine fm_isub hc d_Fr_runAlone_79 ?_
        refine fm_top (congrArg Value.int (pk_sub (a := W.length + 1) (b := 1) (by omega))) ?_
        refine fm_top (congrArg Value.int (show nI ((W.length + 1) - 1) = nI W.length from (congrArg nI (Nat.add_sub_cancel W.length 1)))) ?_
        refine fm_aload_n hc d_Fr_runAlone_80 rfl rfl ?_
        refine fm_getI (k := 5) hc K_Pr d_Fr_runAlone_81 q_129 rfl (by decide) (by omega) (by decide) (by decide) (by decide) rfl ?_
        refine fm_top (congrArg Value.int (show Ma.1 60 5 = av from ask)) ?_
        refine fm_callV (av := [.int (nI a), .int (nI W.length), .int av]) (rest := []) (ob := 70) (ci := 2) (r0 := ("AgentNet$Sayings", F_Sy, 2)) (y := y_Sy_put) (bytes := b_Sy_put) hc fm_T0_good (fm_EX_st b x) hex q_674 q_6 q_671 q_672 q_673 pd_Sy_put (by decide) (by omega) (by decide) (by decide) rfl rfl (c_putG (o := 70) (v := av) (sy70 hn) hFa.2.2.2.2.1 ha l16) ⟨rfl, rfl, Nat.le_of_ble_eq_true rfl, Nat.le_of_ble_eq_true rfl⟩ ⟨Nat.le_of_ble_eq_true rfl, Nat.le_of_ble_eq_true rfl⟩ d_Fr_runAlone_84 (Nat.le_of_ble_eq_true rfl) (fun r n2 M2 hp => ?_)
        obtain ⟨rfl, hq1, hq2⟩ := hp
        replace hq1 := hq1.symm
        subst hq1
        have y1 : ∀ q, q ≠ 71 → q ≠ 72 → M2.1 q = Ma.1 q := fun q b1 b2 => by rw [hq2]; exact funext fun i => (p1_other b2).trans (p1_other b1)
        have y2 : M2.2 = Ma.2 := by rw [hq2]; rfl
        have y3 : hc_L M2 70 (va_up C a (W ++ [av]).length) (va_up V0 a (fun i => (W ++ [av]).getD i 0)) := by rw [hq2]; exact hcL_put ha l16 l1
        refine fm_cnt (z' := (0, 0)) rfl (fm_st (st' := []) rfl ?_)
        refine fm_goto (tgt := 129) hc d_Fr_runAlone_87 rfl ?_
        refine fm_iinc (v := nI (i + 1)) (lv' := [(7, .int (nI (i + 1))), (8, .int (nI 1)), (6, .int (nI he)), (0, .ref 69), (1, .ref tr), (2, .int (nI j)), (3, .ref 60), (4, .ref (82 + 2 * p0)), (5, .ref 10)]) hc d_Fr_runAlone_129 rfl (nI_1 i) (by decide) rfl ?_
        refine fm_goto (tgt := 16) hc d_Fr_runAlone_132 rfl ?_
        refine fm_dropl (lv' := [(7, .int (nI (i + 1))), (6, .int (nI he)), (0, .ref 69), (1, .ref tr), (2, .int (nI j)), (3, .ref 60), (4, .ref (82 + 2 * p0)), (5, .ref 10)]) (by simp) ?_
        exact ih (P, he, W ++ [av], c) _ ⟨hcA_eq (y1 tr (by omega) (by omega)) y2 r1, s1, e1.trans i3, i4, by rw [List.length_append]; exact e5.symm, y3, by rw [y1 73 (by decide) (by decide)]; exact m1, fun c hc => by rw [y1 73 (by decide) (by decide)]; exact m2 c hc, fun q => by rw [show P.1 7 = A.1 7 by rw [s6, if_neg (by decide)]]; exact i9 q, faK_of (fun h4 => ⟨fun K hK => hcA_eq (y1 78 (by decide) (by decide)) y2 hK, by rw [y1 69 (by decide) (by decide)]⟩) k1, frX_tr x1 ⟨by rw [y2], fun q b => ⟨y1 q (by omega) (by omega), by rw [y2]⟩⟩, by rw [← i12, fa_next, if_pos (show (1 : Nat) = 1 from rfl)]⟩
      · obtain ⟨d, hd4, hdn, hde⟩ := s7 rfl
        have hde : av = nI d := hde
        clear s7 k3 hk hdn
        refine fm_iload hc d_Fr_runAlone_16 rfl ?_
        refine fm_sipush (v := nI 200) hc d_Fr_runAlone_18 rfl ?_
        refine fm_icmp_ge (tgt := 135) hc d_Fr_runAlone_21 rfl (fun gQ => absurd gQ (hnleB (a := 200) (c := i) hi (by omega))) (fun _ => ?_)
        refine fm_aload_n hc d_Fr_runAlone_24 rfl rfl ?_
        refine fm_getI (k := 3) hc K_Tr d_Fr_runAlone_25 q_185 rfl (by omega) (by omega) hT.2.2.1 (by decide) (by decide) rfl ?_
        refine fm_top (congrArg Value.int (show Mi.1 tr 3 = nI (A.1 3) from hfu)) ?_
        refine fm_if_le (tgt := 135) hc d_Fr_runAlone_28 rfl (fun gQ => absurd gQ (fun q => g0 (by have := (nI_leI (a := A.1 3) (b := 0) (by omega) (by decide)).mp q; omega))) (fun _ => ?_)
        refine fm_aload_n hc d_Fr_runAlone_31 rfl rfl ?_
        refine fm_aload_n hc d_Fr_runAlone_32 rfl rfl ?_
        refine fm_aload hc d_Fr_runAlone_33 rfl ?_
        refine fm_aload hc d_Fr_runAlone_35 rfl ?_
        refine fm_iload hc d_Fr_runAlone_37 rfl ?_
        refine fm_aaldA (q := 11 + he) (j := he) (len := 4) hc 8 d_Fr_runAlone_39 (by decide) (by omega) (by decide) (by decide) rfl (by omega) (by decide) (ap_tab hAi i4) ?_
        refine fm_iload hc d_Fr_runAlone_40 rfl ?_
        refine fm_callV (av := [.ref tr, .ref (82 + 2 * p0), .ref (11 + he), .int (nI he)]) (rest := []) (ob := 60) (ci := 10) (r0 := ("AgentNet$Processor", F_Pr, 6)) (y := y_Pr_perform) (bytes := b_Pr_perform) hc fm_T0_good (fm_EX_st b x) hex q_594 q_4 q_591 q_592 q_593 pd_Pr_perform (by decide) (by omega) (by decide) (by decide) rfl rfl (hperf) ⟨rfl, rfl, Nat.le_of_ble_eq_true rfl, Nat.le_of_ble_eq_true rfl⟩ ⟨Nat.le_of_ble_eq_true rfl, Nat.le_of_ble_eq_true rfl⟩ d_Fr_runAlone_42 (Nat.le_of_ble_eq_true rfl) (fun r n2 M2 hp => ?_)
        obtain ⟨rfl, hq1, r1, r2, r3⟩ := hp
        replace hq1 := hq1.symm
        subst hq1
        revert r1 r2 r3
        generalize M2 = Ma
        intro r1 r2 r3
        have x1 : fr_X M Ma := frX_tr i11 (frX_P ht r2)
        have r1 : hc_A Ma tr P := r1
        have l1 : hc_L Ma 70 (va_up C a W.length) (va_up V0 a (fun i => W.getD i 0)) := hcL_of (r2.2.1 71 (by omega) (by omega)) (r2.2.1 72 (by omega) (by omega)) i6
        have m1 : Ma.1 73 a = nI 1 := by rw [r2.2.1 73 (by omega) (by omega)]; exact i7
        have m2 : ∀ c, c ≠ a → Ma.1 73 c = M.1 73 c := fun c hc => by rw [r2.2.1 73 (by omega) (by omega)]; exact i8 c hc
        have k1 : fa_K a p0 Ma c := faK_of (fun h4 => ⟨fun K hK => hcA_P (by omega) (by omega) hK r2, by rw [r2.2.1 69 (by omega) (by omega)]⟩) i10
        have hFa := fpF_of x1.1 hF
        have ask : Ma.1 60 5 = nI d := (r3 (Or.inr (Or.inl rfl))).trans hde
        have hd : av.toInt.toNat = d := by rw [hde, nI_int (by omega)]; rfl
        refine fm_cnt (z' := (0, 0)) rfl (fm_st (st' := [.int (nI 2)]) rfl ?_)
        refine fm_istore (lv' := [(8, .int (nI 2)), (7, .int (nI i)), (6, .int (nI he)), (0, .ref 69), (1, .ref tr), (2, .int (nI j)), (3, .ref 60), (4, .ref (82 + 2 * p0)), (5, .ref 10)]) hc d_Fr_runAlone_45 (by decide) rfl ?_
        refine fm_iload hc d_Fr_runAlone_47 rfl ?_
        refine fm_iconst (v := nI 4) hc d_Fr_runAlone_49 rfl ?_
        refine fm_icmp_eq (tgt := 59) hc d_Fr_runAlone_50 rfl (fun gQ => absurd gQ (by decide)) (fun _ => ?_)
        refine fm_iload hc d_Fr_runAlone_53 rfl ?_
        refine fm_iconst (v := nI 5) hc d_Fr_runAlone_55 rfl ?_
        refine fm_icmp_ne (tgt := 60) hc d_Fr_runAlone_56 rfl (fun _ => ?_) (fun gQ => absurd gQ (by decide))
        refine fm_iload hc d_Fr_runAlone_60 rfl ?_
        refine fm_iconst (v := nI 1) hc d_Fr_runAlone_62 rfl ?_
        refine fm_icmp_ne (tgt := 90) hc d_Fr_runAlone_63 rfl (fun _ => ?_) (fun gQ => absurd gQ (by decide))
        refine fm_iload hc d_Fr_runAlone_90 rfl ?_
        refine fm_iconst (v := nI 2) hc d_Fr_runAlone_92 rfl ?_
        refine fm_icmp_ne (tgt := 105) hc d_Fr_runAlone_93 rfl (fun gQ => absurd (by decide) gQ) (fun _ => ?_)
        refine fm_aload_n hc d_Fr_runAlone_96 rfl rfl ?_
        refine fm_getI (k := 5) hc K_Pr d_Fr_runAlone_97 q_129 rfl (by decide) (by omega) (by decide) (by decide) (by decide) rfl ?_
        refine fm_top (congrArg Value.int (show Ma.1 60 5 = nI d from ask)) ?_
        refine fm_istore (lv' := [(6, .int (nI d)), (8, .int (nI 2)), (7, .int (nI i)), (0, .ref 69), (1, .ref tr), (2, .int (nI j)), (3, .ref 60), (4, .ref (82 + 2 * p0)), (5, .ref 10)]) hc d_Fr_runAlone_100 (by decide) rfl ?_
        refine fm_goto (tgt := 129) hc d_Fr_runAlone_102 rfl ?_
        refine fm_iinc (v := nI (i + 1)) (lv' := [(7, .int (nI (i + 1))), (6, .int (nI d)), (8, .int (nI 2)), (0, .ref 69), (1, .ref tr), (2, .int (nI j)), (3, .ref 60), (4, .ref (82 + 2 * p0)), (5, .ref 10)]) hc d_Fr_runAlone_129 rfl (nI_1 i) (by decide) rfl ?_
        refine fm_goto (tgt := 16) hc d_Fr_runAlone_132 rfl ?_
        refine fm_dropl (lv' := [(7, .int (nI (i + 1))), (6, .int (nI d)), (0, .ref 69), (1, .ref tr), (2, .int (nI j)), (3, .ref 60), (4, .ref (82 + 2 * p0)), (5, .ref 10)]) (by simp) ?_
        exact ih (P, d, W, c) _ ⟨r1, s1, e1.trans i3, hd4, i5.trans (by rw [s3, if_neg (by decide)]), l1, m1, m2, fun q => by rw [show P.1 7 = A.1 7 by rw [s6, if_neg (by decide)]]; exact i9 q, k1, x1, by rw [← i12, fa_next, if_neg (show ¬ (2 : Nat) = 1 by decide), if_pos (show (2 : Nat) = 2 from rfl), hd]⟩
      · obtain ⟨q1, q2, q3, q4, q5, q6, q7, -⟩ := hk rfl
        obtain ⟨a4, z7, kw⟩ := k3 rfl
        have q7 : ¬ av < 1 := q7
        clear s7 k3 hk
        refine fm_iload hc d_Fr_runAlone_16 rfl ?_
        refine fm_sipush (v := nI 200) hc d_Fr_runAlone_18 rfl ?_
        refine fm_icmp_ge (tgt := 135) hc d_Fr_runAlone_21 rfl (fun gQ => absurd gQ (hnleB (a := 200) (c := i) hi (by omega))) (fun _ => ?_)
        refine fm_aload_n hc d_Fr_runAlone_24 rfl rfl ?_
        refine fm_getI (k := 3) hc K_Tr d_Fr_runAlone_25 q_185 rfl (by omega) (by omega) hT.2.2.1 (by decide) (by decide) rfl ?_
        refine fm_top (congrArg Value.int (show Mi.1 tr 3 = nI (A.1 3) from hfu)) ?_
        refine fm_if_le (tgt := 135) hc d_Fr_runAlone_28 rfl (fun gQ => absurd gQ (fun q => g0 (by have := (nI_leI (a := A.1 3) (b := 0) (by omega) (by decide)).mp q; omega))) (fun _ => ?_)
        refine fm_aload_n hc d_Fr_runAlone_31 rfl rfl ?_
        refine fm_aload_n hc d_Fr_runAlone_32 rfl rfl ?_
        refine fm_aload hc d_Fr_runAlone_33 rfl ?_
        refine fm_aload hc d_Fr_runAlone_35 rfl ?_
        refine fm_iload hc d_Fr_runAlone_37 rfl ?_
        refine fm_aaldA (q := 11 + he) (j := he) (len := 4) hc 8 d_Fr_runAlone_39 (by decide) (by omega) (by decide) (by decide) rfl (by omega) (by decide) (ap_tab hAi i4) ?_
        refine fm_iload hc d_Fr_runAlone_40 rfl ?_
        refine fm_callV (av := [.ref tr, .ref (82 + 2 * p0), .ref (11 + he), .int (nI he)]) (rest := []) (ob := 60) (ci := 10) (r0 := ("AgentNet$Processor", F_Pr, 6)) (y := y_Pr_perform) (bytes := b_Pr_perform) hc fm_T0_good (fm_EX_st b x) hex q_594 q_4 q_591 q_592 q_593 pd_Pr_perform (by decide) (by omega) (by decide) (by decide) rfl rfl (hperf) ⟨rfl, rfl, Nat.le_of_ble_eq_true rfl, Nat.le_of_ble_eq_true rfl⟩ ⟨Nat.le_of_ble_eq_true rfl, Nat.le_of_ble_eq_true rfl⟩ d_Fr_runAlone_42 (Nat.le_of_ble_eq_true rfl) (fun r n2 M2 hp => ?_)
        obtain ⟨rfl, hq1, r1, r2, r3⟩ := hp
        replace hq1 := hq1.symm
        subst hq1
        revert r1 r2 r3
        generalize M2 = Ma
        intro r1 r2 r3
        have x1 : fr_X M Ma := frX_tr i11 (frX_P ht r2)
        have r1 : hc_A Ma tr P := r1
        have l1 : hc_L Ma 70 (va_up C a W.length) (va_up V0 a (fun i => W.getD i 0)) := hcL_of (r2.2.1 71 (by omega) (by omega)) (r2.2.1 72 (by omega) (by omega)) i6
        have m1 : Ma.1 73 a = nI 1 := by rw [r2.2.1 73 (by omega) (by omega)]; exact i7
        have m2 : ∀ c, c ≠ a → Ma.1 73 c = M.1 73 c := fun c hc => by rw [r2.2.1 73 (by omega) (by omega)]; exact i8 c hc
        have k1 : fa_K a p0 Ma c := faK_of (fun h4 => ⟨fun K hK => hcA_P (by omega) (by omega) hK r2, by rw [r2.2.1 69 (by omega) (by omega)]⟩) i10
        have hFa := fpF_of x1.1 hF
        have ask : Ma.1 60 5 = av := r3 (Or.inr (Or.inr rfl))
        have etr : tr = 74 := by omega
        have ev : av = nI av.toInt.toNat := (toN_of (v := av) (a := 1) (c := 2147483647) (lo := 1) (hi := 2147483647) rfl (by decide) ⟨q7, fun q => by
            have := Int32.lt_iff_toInt_lt.mp q
            have h2 : (2147483647 : Int32).toInt = 2147483647 := by decide
            have h3 := Int32.toInt_lt av
            omega⟩).1
        have hch := c_child (l := l) (b := b) (x := x) (D := D) (dA := dA) (n := n) (M := Ma) (o := 78) (q := tr) (w := av.toInt.toNat) (trL_78 hn) hT hFa.2.2.2.2.2.2 (tP Ma x1.1) (Or.inr (by omega)) r1 s1.1 q5 s1.2.2.2.2.2.2.2.2
        rw [← ev] at hch
        refine fm_cnt (z' := (0, 0)) rfl (fm_st (st' := [.int (nI 3)]) rfl ?_)
        refine fm_istore (lv' := [(8, .int (nI 3)), (7, .int (nI i)), (6, .int (nI he)), (0, .ref 69), (1, .ref tr), (2, .int (nI j)), (3, .ref 60), (4, .ref (82 + 2 * p0)), (5, .ref 10)]) hc d_Fr_runAlone_45 (by decide) rfl ?_
        refine fm_iload hc d_Fr_runAlone_47 rfl ?_
        refine fm_iconst (v := nI 4) hc d_Fr_runAlone_49 rfl ?_
        refine fm_icmp_eq (tgt := 59) hc d_Fr_runAlone_50 rfl (fun gQ => absurd gQ (by decide)) (fun _ => ?_)
        refine fm_iload hc d_Fr_runAlone_53 rfl ?_
        refine fm_iconst (v := nI 5) hc d_Fr_runAlone_55 rfl ?_
        refine fm_icmp_ne (tgt := 60) hc d_Fr_runAlone_56 rfl (fun _ => ?_) (fun gQ => absurd gQ (by decide))
        refine fm_iload hc d_Fr_runAlone_60 rfl ?_
        refine fm_iconst (v := nI 1) hc d_Fr_runAlone_62 rfl ?_
        refine fm_icmp_ne (tgt := 90) hc d_Fr_runAlone_63 rfl (fun _ => ?_) (fun gQ => absurd gQ (by decide))
        refine fm_iload hc d_Fr_runAlone_90 rfl ?_
        refine fm_iconst (v := nI 2) hc d_Fr_runAlone_92 rfl ?_
        refine fm_icmp_ne (tgt := 105) hc d_Fr_runAlone_93 rfl (fun _ => ?_) (fun gQ => absurd gQ (by decide))
        refine fm_iload hc d_Fr_runAlone_105 rfl ?_
        refine fm_iconst (v := nI 3) hc d_Fr_runAlone_107 rfl ?_
        refine fm_icmp_ne (tgt := 129) hc d_Fr_runAlone_108 rfl (fun gQ => absurd (by decide) gQ) (fun _ => ?_)
        refine fm_aload_n hc d_Fr_runAlone_111 rfl rfl ?_
        refine fm_getR (k := 3) (q := 78) hc K_Fr d_Fr_runAlone_112 q_261 rfl (by decide) (by omega) (by decide) (by decide) (by decide) rfl hFa.2.2.2.1 ?_
        refine fm_aload_n hc d_Fr_runAlone_115 rfl rfl ?_
        refine fm_aload_n hc d_Fr_runAlone_116 rfl rfl ?_
        refine fm_getI (k := 5) hc K_Pr d_Fr_runAlone_117 q_129 rfl (by decide) (by omega) (by decide) (by decide) (by decide) rfl ?_
        refine fm_top (congrArg Value.int (show Ma.1 60 5 = av from ask)) ?_
        refine fm_callV (av := [.ref tr, .int av]) (rest := []) (ob := 78) (ci := 5) (r0 := ("AgentNet$Traveller", F_Tr, 13)) (y := y_Tr_becomeChildOf) (bytes := b_Tr_becomeChildOf) hc fm_T0_good (fm_EX_st b x) hex q_678 q_8 q_675 q_676 q_677 pd_Tr_becomeChildOf (by decide) (by omega) (by decide) (by decide) rfl rfl (hch) ⟨rfl, rfl, Nat.le_of_ble_eq_true rfl, Nat.le_of_ble_eq_true rfl⟩ ⟨Nat.le_of_ble_eq_true rfl, Nat.le_of_ble_eq_true rfl⟩ d_Fr_runAlone_120 (Nat.le_of_ble_eq_true rfl) (fun r n2 M2 hp => ?_)
        obtain ⟨rfl, hq1, hq2⟩ := hp
        replace hq1 := hq1.symm
        subst hq1
        have c1 := child_hc (o := 78) (q := tr) (w := av.toInt.toNat) (Or.inr (by omega)) r1
        rw [← ev, ← hq2] at c1
        clear hq2
        revert c1
        generalize M2 = Mc
        intro c1
        obtain ⟨c1, c2⟩ := c1
        rw [show ch_K P av.toInt.toNat = ag_kidOf A av.toInt.toNat from q1] at c1
        refine fm_cnt (z' := (0, 0)) rfl (fm_st (st' := []) rfl ?_)
        refine fm_aload_n hc d_Fr_runAlone_123 rfl rfl ?_
        refine fm_iload hc d_Fr_runAlone_124 rfl ?_
        refine fm_putI (k := 4) (v := nI he) hc K_Fr d_Fr_runAlone_126 q_262 rfl (by decide) (by omega) (by decide) (by decide) (by decide) rfl rfl rfl rfl ?_
        refine fm_iinc (v := nI (i + 1)) (lv' := [(7, .int (nI (i + 1))), (8, .int (nI 3)), (6, .int (nI he)), (0, .ref 69), (1, .ref tr), (2, .int (nI j)), (3, .ref 60), (4, .ref (82 + 2 * p0)), (5, .ref 10)]) hc d_Fr_runAlone_129 rfl (nI_1 i) (by decide) rfl ?_
        refine fm_goto (tgt := 16) hc d_Fr_runAlone_132 rfl ?_
        refine fm_dropl (lv' := [(7, .int (nI (i + 1))), (6, .int (nI he)), (0, .ref 69), (1, .ref tr), (2, .int (nI j)), (3, .ref 60), (4, .ref (82 + 2 * p0)), (5, .ref 10)]) (by simp) ?_
        have n3 : ∀ q, q ≠ 78 → q ≠ 69 → (fm_put1 Mc 69 4 (nI he)).1 q = Ma.1 q := fun q b1 b2 => (funext fun i => p1_other b2).trans (c2.2.1 q b1)
        refine ih (P, he, W, some (ag_kidOf A av.toInt.toNat, he)) _ ⟨hcA_o1 (by omega) (hcA_ft (by omega) r1 c2), s1, e1.trans i3, i4, i5.trans (by rw [s3, if_neg (by decide)]), hcL_of (n3 71 (by decide) (by decide)) (n3 72 (by decide) (by decide)) l1, by rw [n3 73 (by decide) (by decide)]; exact m1, fun c hc => by rw [n3 73 (by decide) (by decide)]; exact m2 c hc, fun q => by rw [s6, if_pos rfl]; rfl, ?_, frX_tr x1 ⟨c2.1, fun q b => ⟨n3 q (by omega) (by omega), c2.2.2 q (by omega) (by omega) (by omega)⟩⟩, by rw [← i12, fa_next, if_neg (show ¬ (3 : Nat) = 1 by decide), if_neg (show ¬ (3 : Nat) = 2 by decide), if_pos (show (3 : Nat) = 3 from rfl)]⟩
        intro K h' e
        obtain ⟨rfl, rfl⟩ := Prod.mk.inj (Option.some.inj e)
        exact ⟨a4, hcA_o1 (by decide) c1, p1_same _ _ _ _, i4, kw, kid_1.1.trans i3, kid_1.2.1, kid_1.2.2⟩
      · clear s7 k3 hk
        refine fm_iload hc d_Fr_runAlone_16 rfl ?_
        refine fm_sipush (v := nI 200) hc d_Fr_runAlone_18 rfl ?_
        refine fm_icmp_ge (tgt := 135) hc d_Fr_runAlone_21 rfl (fun gQ => absurd gQ (hnleB (a := 200) (c := i) hi (by omega))) (fun _ => ?_)
        refine fm_aload_n hc d_Fr_runAlone_24 rfl rfl ?_
        refine fm_getI (k := 3) hc K_Tr d_Fr_runAlone_25 q_185 rfl (by omega) (by omega) hT.2.2.1 (by decide) (by decide) rfl ?_
        refine fm_top (congrArg Value.int (show Mi.1 tr 3 = nI (A.1 3) from hfu)) ?_
        refine fm_if_le (tgt := 135) hc d_Fr_runAlone_28 rfl (fun gQ => absurd gQ (fun q => g0 (by have := (nI_leI (a := A.1 3) (b := 0) (by omega) (by decide)).mp q; omega))) (fun _ => ?_)
        refine fm_aload_n hc d_Fr_runAlone_31 rfl rfl ?_
        refine fm_aload_n hc d_Fr_runAlone_32 rfl rfl ?_
        refine fm_aload hc d_Fr_runAlone_33 rfl ?_
        refine fm_aload hc d_Fr_runAlone_35 rfl ?_
        refine fm_iload hc d_Fr_runAlone_37 rfl ?_
        refine fm_aaldA (q := 11 + he) (j := he) (len := 4) hc 8 d_Fr_runAlone_39 (by decide) (by omega) (by decide) (by decide) rfl (by omega) (by decide) (ap_tab hAi i4) ?_
        refine fm_iload hc d_Fr_runAlone_40 rfl ?_
        refine fm_callV (av := [.ref tr, .ref (82 + 2 * p0), .ref (11 + he), .int (nI he)]) (rest := []) (ob := 60) (ci := 10) (r0 := ("AgentNet$Processor", F_Pr, 6)) (y := y_Pr_perform) (bytes := b_Pr_perform) hc fm_T0_good (fm_EX_st b x) hex q_594 q_4 q_591 q_592 q_593 pd_Pr_perform (by decide) (by omega) (by decide) (by decide) rfl rfl (hperf) ⟨rfl, rfl, Nat.le_of_ble_eq_true rfl, Nat.le_of_ble_eq_true rfl⟩ ⟨Nat.le_of_ble_eq_true rfl, Nat.le_of_ble_eq_true rfl⟩ d_Fr_runAlone_42 (Nat.le_of_ble_eq_true rfl) (fun r n2 M2 hp => ?_)
        obtain ⟨rfl, hq1, r1, r2, r3⟩ := hp
        replace hq1 := hq1.symm
        subst hq1
        revert r1 r2 r3
        generalize M2 = Ma
        intro r1 r2 r3
        have x1 : fr_X M Ma := frX_tr i11 (frX_P ht r2)
        have r1 : hc_A Ma tr P := r1
        have l1 : hc_L Ma 70 (va_up C a W.length) (va_up V0 a (fun i => W.getD i 0)) := hcL_of (r2.2.1 71 (by omega) (by omega)) (r2.2.1 72 (by omega) (by omega)) i6
        have m1 : Ma.1 73 a = nI 1 := by rw [r2.2.1 73 (by omega) (by omega)]; exact i7
        have m2 : ∀ c, c ≠ a → Ma.1 73 c = M.1 73 c := fun c hc => by rw [r2.2.1 73 (by omega) (by omega)]; exact i8 c hc
        have k1 : fa_K a p0 Ma c := faK_of (fun h4 => ⟨fun K hK => hcA_P (by omega) (by omega) hK r2, by rw [r2.2.1 69 (by omega) (by omega)]⟩) i10
        have hFa := fpF_of x1.1 hF
        refine fm_cnt (z' := (0, 0)) rfl (fm_st (st' := [.int (nI 4)]) rfl ?_)
        refine fm_istore (lv' := [(8, .int (nI 4)), (7, .int (nI i)), (6, .int (nI he)), (0, .ref 69), (1, .ref tr), (2, .int (nI j)), (3, .ref 60), (4, .ref (82 + 2 * p0)), (5, .ref 10)]) hc d_Fr_runAlone_45 (by decide) rfl ?_
        refine fm_iload hc d_Fr_runAlone_47 rfl ?_
        refine fm_iconst (v := nI 4) hc d_Fr_runAlone_49 rfl ?_
        refine fm_icmp_eq (tgt := 59) hc d_Fr_runAlone_50 rfl (fun _ => ?_) (fun gQ => absurd (by decide) gQ)
        exact fm_vret hc hr d_Fr_runAlone_59 (Nat.le_refl _) (Nat.le_refl _) ⟨rfl, rfl, by rw [← i12, fa_next, if_neg (show ¬ (4 : Nat) = 1 by decide), if_neg (show ¬ (4 : Nat) = 2 by decide), if_neg (show ¬ (4 : Nat) = 3 by decide), if_neg (show ¬ (4 : Nat) = 0 by decide)]; exact ⟨l1, m1, m2, fun q => (r1.1 7 (by decide)).trans (congrArg nI (by rw [s6, if_neg (by decide)]; exact i9 q)), k1, x1⟩⟩
      · clear s7 k3 hk
        refine fm_iload hc d_Fr_runAlone_16 rfl ?_
        refine fm_sipush (v := nI 200) hc d_Fr_runAlone_18 rfl ?_
        refine fm_icmp_ge (tgt := 135) hc d_Fr_runAlone_21 rfl (fun gQ => absurd gQ (hnleB (a := 200) (c := i) hi (by omega))) (fun _ => ?_)
        refine fm_aload_n hc d_Fr_runAlone_24 rfl rfl ?_
        refine fm_getI (k := 3) hc K_Tr d_Fr_runAlone_25 q_185 rfl (by omega) (by omega) hT.2.2.1 (by decide) (by decide) rfl ?_
        refine fm_top (congrArg Value.int (show Mi.1 tr 3 = nI (A.1 3) from hfu)) ?_
        refine fm_if_le (tgt := 135) hc d_Fr_runAlone_28 rfl (fun gQ => absurd gQ (fun q => g0 (by have := (nI_leI (a := A.1 3) (b := 0) (by omega) (by decide)).mp q; omega))) (fun _ => ?_)
        refine fm_aload_n hc d_Fr_runAlone_31 rfl rfl ?_
        refine fm_aload_n hc d_Fr_runAlone_32 rfl rfl ?_
        refine fm_aload hc d_Fr_runAlone_33 rfl ?_
        refine fm_aload hc d_Fr_runAlone_35 rfl ?_
        refine fm_iload hc d_Fr_runAlone_37 rfl ?_
        refine fm_aaldA (q := 11 + he) (j := he) (len := 4) hc 8 d_Fr_runAlone_39 (by decide) (by omega) (by decide) (by decide) rfl (by omega) (by decide) (ap_tab hAi i4) ?_
        refine fm_iload hc d_Fr_runAlone_40 rfl ?_
        refine fm_callV (av := [.ref tr, .ref (82 + 2 * p0), .ref (11 + he), .int (nI he)]) (rest := []) (ob := 60) (ci := 10) (r0 := ("AgentNet$Processor", F_Pr, 6)) (y := y_Pr_perform) (bytes := b_Pr_perform) hc fm_T0_good (fm_EX_st b x) hex q_594 q_4 q_591 q_592 q_593 pd_Pr_perform (by decide) (by omega) (by decide) (by decide) rfl rfl (hperf) ⟨rfl, rfl, Nat.le_of_ble_eq_true rfl, Nat.le_of_ble_eq_true rfl⟩ ⟨Nat.le_of_ble_eq_true rfl, Nat.le_of_ble_eq_true rfl⟩ d_Fr_runAlone_42 (Nat.le_of_ble_eq_true rfl) (fun r n2 M2 hp => ?_)
        obtain ⟨rfl, hq1, r1, r2, r3⟩ := hp
        replace hq1 := hq1.symm
        subst hq1
        revert r1 r2 r3
        generalize M2 = Ma
        intro r1 r2 r3
        have x1 : fr_X M Ma := frX_tr i11 (frX_P ht r2)
        have r1 : hc_A Ma tr P := r1
        have l1 : hc_L Ma 70 (va_up C a W.length) (va_up V0 a (fun i => W.getD i 0)) := hcL_of (r2.2.1 71 (by omega) (by omega)) (r2.2.1 72 (by omega) (by omega)) i6
        have m1 : Ma.1 73 a = nI 1 := by rw [r2.2.1 73 (by omega) (by omega)]; exact i7
        have m2 : ∀ c, c ≠ a → Ma.1 73 c = M.1 73 c := fun c hc => by rw [r2.2.1 73 (by omega) (by omega)]; exact i8 c hc
        have k1 : fa_K a p0 Ma c := faK_of (fun h4 => ⟨fun K hK => hcA_P (by omega) (by omega) hK r2, by rw [r2.2.1 69 (by omega) (by omega)]⟩) i10
        have hFa := fpF_of x1.1 hF
        refine fm_cnt (z' := (0, 0)) rfl (fm_st (st' := [.int (nI 5)]) rfl ?_)
        refine fm_istore (lv' := [(8, .int (nI 5)), (7, .int (nI i)), (6, .int (nI he)), (0, .ref 69), (1, .ref tr), (2, .int (nI j)), (3, .ref 60), (4, .ref (82 + 2 * p0)), (5, .ref 10)]) hc d_Fr_runAlone_45 (by decide) rfl ?_
        refine fm_iload hc d_Fr_runAlone_47 rfl ?_
        refine fm_iconst (v := nI 4) hc d_Fr_runAlone_49 rfl ?_
        refine fm_icmp_eq (tgt := 59) hc d_Fr_runAlone_50 rfl (fun gQ => absurd gQ (by decide)) (fun _ => ?_)
        refine fm_iload hc d_Fr_runAlone_53 rfl ?_
        refine fm_iconst (v := nI 5) hc d_Fr_runAlone_55 rfl ?_
        refine fm_icmp_ne (tgt := 60) hc d_Fr_runAlone_56 rfl (fun gQ => absurd (by decide) gQ) (fun _ => ?_)
        exact fm_vret hc hr d_Fr_runAlone_59 (Nat.le_refl _) (Nat.le_refl _) ⟨rfl, rfl, by rw [← i12, fa_next, if_neg (show ¬ (5 : Nat) = 1 by decide), if_neg (show ¬ (5 : Nat) = 2 by decide), if_neg (show ¬ (5 : Nat) = 3 by decide), if_neg (show ¬ (5 : Nat) = 0 by decide)]; exact ⟨l1, m1, m2, fun q => (r1.1 7 (by decide)).trans (congrArg nI (by rw [s6, if_neg (by decide)]; exact i9 q)), k1, x1⟩⟩
  · obtain ⟨A, he, W, c⟩ := t
    obtain ⟨i1, i2, i3, i4, i5, i6, i7, i8, i9, i10, i11, i12⟩ := hI
    have i1 : hc_A Mi tr A := i1
    have i12 : fa_run sc tb (200 - 200) A he W c = RR := i12
    refine fm_iload hc d_Fr_runAlone_16 rfl ?_
    refine fm_sipush (v := nI 200) hc d_Fr_runAlone_18 rfl ?_
    refine fm_icmp_ge (tgt := 135) hc d_Fr_runAlone_21 rfl (fun _ => ?_) (fun gQ => absurd (by decide) gQ)
    exact fm_vret hc hr d_Fr_runAlone_135 (Nat.le_refl _) (Nat.le_refl _) ⟨rfl, rfl, by rw [← i12]; exact ⟨i6, i7, i8, fun q => (i1.1 7 (by decide)).trans (congrArg nI (i9 q)), i10, i11⟩⟩
