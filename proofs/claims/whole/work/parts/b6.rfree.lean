/-! THE REFERENCE: the free run -/
def fx_R (M M' : fm_M) : Prop := fk_R 96 M M' ∧ ∀ ms, hr_W M ms → hr_W M' ms
theorem fxR_rf (M : fm_M) : fx_R M M := ⟨fkR_rf _ _, fun _ h => h⟩
theorem fxR_tr {M M1 M2 : fm_M} (h : fx_R M M1) (g : fx_R M1 M2) : fx_R M M2 := ⟨fkR_tr h.1 g.1, fun ms q => g.2 ms (h.2 ms q)⟩
theorem fxR_p {o i : Nat} {v : Int32} {M : fm_M} (h : (o = 586 ∧ i ≠ 4 ∧ (i ≠ 37 ∧ i ≠ 0)) ∨ o = 628) : fx_R M (fm_put1 M o i v) := by
  refine ⟨⟨rfl, ?_, fun q a c => funext fun k => p1_other (by omega), fun b1 m a c d => hrM_o (by omega) d, fun q a => ⟨funext fun k => p1_other (by omega), rfl⟩⟩, fun ms d => hrW_of (fun q k a c => p1_other (by omega)) ?_ d⟩
  · intro k e
    by_cases g : o = 586
    · subst g; exact p1_at (by omega)
    · exact p1_other (Ne.symm g)
  · by_cases g : o = 586
    · subst g; exact p1_at (by omega)
    · exact p1_other (Ne.symm g)
theorem fxR_W2 {gi gc : Nat} {M M' : fm_M} (h1 : 96 ≤ gi ∧ gi ≤ 97) (h2 : 96 ≤ gc ∧ gc ≤ 97) (f : fr_W2 gi gc M M') : fx_R M M' := by
  have e : ∀ q i, q < 605 ∨ 618 < q → ¬ (q = 586 ∧ i = 32) → M'.1 q i = M.1 q i := fun q i a b => f.2.1 q i (by omega) (by omega) (by omega) b
  refine ⟨⟨f.1, fun i w => e 586 i (by omega) (by omega), fun q a c => funext fun i => e _ _ (by omega) (by omega), fun b1 m a c d => ?_, fun q a => ⟨funext fun i => e _ _ (by omega) (by omega), funext fun i => f.2.2 _ _ (by omega) (by omega) (by omega) (by omega)⟩⟩, fun ms d => hrW_of (fun q i a c => e _ _ (by omega) (by omega)) (e _ _ (by omega) (by omega)) d⟩
  have f1 : ∀ q i, q ≤ 614 → i < 96 → q ≠ 586 → M'.1 q i = M.1 q i := fun q i a b d => f.2.1 q i (by omega) (by omega) (by omega) (by omega)
  by_cases hb : b1 + 8 ≤ 96
  · obtain ⟨S, K, O, T, G, H, V, D⟩ := m
    obtain ⟨h1, h2, h3, h4, h5, h6, h7, h8, h9⟩ := d
    refine ⟨fun a ha => (f1 _ _ (by omega) (by omega) (by omega)).trans (h1 a ha), fun a ha hs => (f1 _ _ (by omega) (by omega) (by omega)).trans (h2 a ha hs), fun a ha => (f1 _ _ (by omega) (by omega) (by omega)).trans (h3 a ha), fun a ha => (f1 _ _ (by omega) (by omega) (by omega)).trans (h4 a ha), fun a ha => (f1 _ _ (by omega) (by omega) (by omega)).trans (h5 a ha), fun a ha => (f1 _ _ (by omega) (by omega) (by omega)).trans (h6 a ha), fun a i ha hi => (e _ _ (by omega) (by omega)).trans (h7 a i ha hi), fun a ha => by rw [f1 _ _ (by omega) (by omega) (by omega)]; exact h8 a ha, fun a ha hs => ?_⟩
    obtain ⟨g, hg⟩ := h9 a ha hs
    exact ⟨g, hrG_at1 (c.2 a ha hs).1 hg (fun k _ _ => f1 _ _ (by omega) (by omega) (by omega)) (fun k hk => f.2.2 _ _ (by omega) (by omega) (by omega) (by omega)) (fun k hk => ⟨f.2.2 _ _ (by omega) (by omega) (by omega) (by omega), f.2.2 _ _ (by omega) (by omega) (by omega) (by omega)⟩)⟩
  · have hb2 : 104 ≤ b1 := by omega
    obtain ⟨S, K, O, T, G, H, V, D⟩ := m
    obtain ⟨h1, h2, h3, h4, h5, h6, h7, h8, h9⟩ := d
    have f2 : ∀ q i, q ≤ 614 → 98 ≤ i → q ≠ 586 → M'.1 q i = M.1 q i := fun q i a b d => f.2.1 q i (by omega) (by omega) (by omega) (by omega)
    refine ⟨fun a ha => (f2 _ _ (by omega) (by omega) (by omega)).trans (h1 a ha), fun a ha hs => (f2 _ _ (by omega) (by omega) (by omega)).trans (h2 a ha hs), fun a ha => (f2 _ _ (by omega) (by omega) (by omega)).trans (h3 a ha), fun a ha => (f2 _ _ (by omega) (by omega) (by omega)).trans (h4 a ha), fun a ha => (f2 _ _ (by omega) (by omega) (by omega)).trans (h5 a ha), fun a ha => (f2 _ _ (by omega) (by omega) (by omega)).trans (h6 a ha), fun a i ha hi => (e _ _ (by omega) (by omega)).trans (h7 a i ha hi), fun a ha => by rw [f2 _ _ (by omega) (by omega) (by omega)]; exact h8 a ha, fun a ha hs => ?_⟩
    obtain ⟨g, hg⟩ := h9 a ha hs
    exact ⟨g, hrG_at1 (c.2 a ha hs).1 hg (fun k _ _ => f2 _ _ (by omega) (by omega) (by omega)) (fun k hk => f.2.2 _ _ (by omega) (by omega) (by omega) (by omega)) (fun k hk => ⟨f.2.2 _ _ (by omega) (by omega) (by omega) (by omega), f.2.2 _ _ (by omega) (by omega) (by omega) (by omega)⟩)⟩
theorem fxR_RP {M M' : fm_M} (h : fx_R M M') (g : fm_RP M) : fm_RP M' := fkR_RP h.1 g
theorem hsR_x {M M' : fm_M} {p0 : Nat} {sc : List Nat} (f : fx_R M M') (h : hs_R M p0 sc) : hs_R M' p0 sc := by
  unfold hs_R at *
  rw [f.1.2.2.1 588 (by decide) (by decide), f.1.2.2.1 587 (by decide) (by decide)]
  exact h
/-- what an instruction of the free run does beside the agent, fc what was counted -/
theorem rW_x {fc gi ak : Nat} {av : Int32} {P A : ag_T} {M M' : fm_M} (h1 : 96 ≤ gi ∧ gi ≤ 97) (hk : ak ≤ 5) (w : rW_g fc gi M A (ak, av, P) M') : fx_R M M' ∧ (∃ g', hr_G M' gi F_f P g') ∧ M'.1 586 46 = (if ak = 2 then av else M.1 586 46) ∧ M'.1 586 48 = (if ak = 1 then nI (fc + 1) else M.1 586 48) ∧ (∀ i, M'.1 628 i = if ak = 1 ∧ i = fc then av else M.1 628 i) ∧ M'.1 586 50 = nI (if ak = 4 then 1 else 0) ∧ M'.1 586 47 = (if ak = 3 then nI 1 else M.1 586 47) ∧ (ak = 3 → ∃ g', hr_G M' 97 F_f (ag_kidOf A av.toInt.toNat) g') := by
  obtain ⟨w1, w2, w3⟩ := w
  have key : ∀ E : fm_M, fr_W gi E M' → fx_R E M' ∧ M'.1 586 46 = E.1 586 46 ∧ M'.1 586 48 = E.1 586 48 ∧ (∀ i, M'.1 628 i = E.1 628 i) ∧ M'.1 586 50 = E.1 586 50 ∧ M'.1 586 47 = E.1 586 47 := fun E f => ⟨fxR_W2 h1 h1 (frW2_W f), f.2.1 _ _ (by omega) (by decide) (by decide) (by omega), f.2.1 _ _ (by omega) (by decide) (by decide) (by omega), fun i => f.2.1 _ _ (by omega) (by decide) (by decide) (by omega), f.2.1 _ _ (by omega) (by decide) (by decide) (by omega), f.2.1 _ _ (by omega) (by decide) (by decide) (by omega)⟩
  have x0 : fx_R M (fm_put1 M 586 50 (nI 0)) := fxR_p (Or.inl ⟨rfl, by decide, by decide⟩)
  rcases (show ak = 0 ∨ ak = 1 ∨ ak = 2 ∨ ak = 3 ∨ ak = 4 ∨ ak = 5 by omega) with rfl | rfl | rfl | rfl | rfl | rfl
  · obtain ⟨k1, k2, k3, k4, k5, k6⟩ := key (fm_put1 M 586 50 (nI 0)) (w2 (show ¬ (0 : Nat) = 3 by decide))
    exact ⟨fxR_tr x0 k1, w1, k2.trans (p1_at (by decide)), k3.trans (p1_at (by decide)), fun i => by rw [if_neg (by omega)]; exact (k4 i).trans (p1_other (by decide)), k5.trans (p1_same _ _ _ _), k6.trans (p1_at (by decide)), fun e => absurd e (by decide)⟩
  · obtain ⟨k1, k2, k3, k4, k5, k6⟩ := key (fm_put1 (fm_put1 (fm_put1 M 586 50 (nI 0)) 628 fc av) 586 48 (nI (fc + 1))) (w2 (show ¬ (1 : Nat) = 3 by decide))
    refine ⟨fxR_tr x0 (fxR_tr (fxR_tr (fxR_p (Or.inr rfl)) (fxR_p (Or.inl ⟨rfl, by decide, by decide⟩))) k1), w1, k2.trans ((p1_at (by decide)).trans ((p1_other (by decide)).trans (p1_at (by decide)))), k3.trans (p1_same _ _ _ _), fun i => ?_, k5.trans ((p1_at (by decide)).trans ((p1_other (by decide)).trans (p1_same _ _ _ _))), k6.trans ((p1_at (by decide)).trans ((p1_other (by decide)).trans (p1_at (by decide)))), fun e => absurd e (by decide)⟩
    rw [k4 i, p1_other (by decide)]
    by_cases g : i = fc
    · subst g
      rw [p1_same, if_pos ⟨rfl, rfl⟩]
    · rw [p1_at g, if_neg (fun q => g q.2)]
      exact p1_other (by decide)
  · obtain ⟨k1, k2, k3, k4, k5, k6⟩ := key (fm_put1 (fm_put1 M 586 50 (nI 0)) 586 46 av) (w2 (show ¬ (2 : Nat) = 3 by decide))
    exact ⟨fxR_tr x0 (fxR_tr (fxR_p (Or.inl ⟨rfl, by decide, by decide⟩)) k1), w1, k2.trans (p1_same _ _ _ _), k3.trans ((p1_at (by decide)).trans (p1_at (by decide))), fun i => by rw [if_neg (by omega)]; exact (k4 i).trans ((p1_other (by decide)).trans (p1_other (by decide))), k5.trans ((p1_at (by decide)).trans (p1_same _ _ _ _)), k6.trans ((p1_at (by decide)).trans (p1_at (by decide))), fun e => absurd e (by decide)⟩
  · obtain ⟨f, m1, m2⟩ := w3 rfl
    have e : ∀ q i, q < 605 ∨ 618 < q → ¬ (q = 586 ∧ i = 32) → M'.1 q i = (fm_put1 (fm_put1 M 586 50 (nI 0)) 586 47 (nI 1)).1 q i := fun q i a b => f.2.1 q i (by omega) (by omega) (by omega) b
    exact ⟨fxR_tr x0 (fxR_tr (fxR_p (Or.inl ⟨rfl, by decide, by decide⟩)) (fxR_W2 h1 (by decide) f)), w1, (e _ _ (by omega) (by omega)).trans ((p1_at (by decide)).trans (p1_at (by decide))), (e _ _ (by omega) (by omega)).trans ((p1_at (by decide)).trans (p1_at (by decide))), fun i => by rw [if_neg (by omega)]; exact (e _ _ (by omega) (by omega)).trans ((p1_other (by decide)).trans (p1_other (by decide))), (e _ _ (by omega) (by omega)).trans ((p1_at (by decide)).trans (p1_same _ _ _ _)), (e _ _ (by omega) (by omega)).trans (p1_same _ _ _ _), fun _ => m1⟩
  · obtain ⟨k1, k2, k3, k4, k5, k6⟩ := key (fm_put1 (fm_put1 M 586 50 (nI 0)) 586 50 (nI 1)) (w2 (show ¬ (4 : Nat) = 3 by decide))
    exact ⟨fxR_tr x0 (fxR_tr (fxR_p (Or.inl ⟨rfl, by decide, by decide⟩)) k1), w1, k2.trans ((p1_at (by decide)).trans (p1_at (by decide))), k3.trans ((p1_at (by decide)).trans (p1_at (by decide))), fun i => by rw [if_neg (by omega)]; exact (k4 i).trans ((p1_other (by decide)).trans (p1_other (by decide))), k5.trans (p1_same _ _ _ _), k6.trans ((p1_at (by decide)).trans (p1_at (by decide))), fun e => absurd e (by decide)⟩
  · obtain ⟨k1, k2, k3, k4, k5, k6⟩ := key (fm_put1 M 586 50 (nI 0)) (w2 (show ¬ (5 : Nat) = 3 by decide))
    exact ⟨fxR_tr x0 k1, w1, k2.trans (p1_at (by decide)), k3.trans (p1_at (by decide)), fun i => by rw [if_neg (by omega)]; exact (k4 i).trans (p1_other (by decide)), k5.trans (p1_same _ _ _ _), k6.trans (p1_at (by decide)), fun e => absurd e (by decide)⟩
theorem rc_runOn {l : Launch} {b : Nat} {x : Nat → Nat} {D : va_G} {dA : Nat → ClassId} {gi a p0 j n : Nat} {A0 : ag_T} {g0 : Nat → Nat} {sc : List Nat} {tb : Nat → Nat → Int32} {M : fm_M} (hn : 629 ≤ n) (hR : fm_RP M) (hg : gi = 96 ∨ gi = 97) (ha : (gi = 96 ∧ a < 4) ∨ (gi = 97 ∧ 4 ≤ a ∧ a < 8)) (hj : j < 4) (hfh : M.1 586 46 = nI j) (h : hr_G M gi F_f A0 g0) (hw : ag_wf a A0) (h1 : A0.1 1 = p0) (hp0 : p0 < 4) (hs : hs_R M p0 sc) (htb : ∀ q, q < 4 → ∀ k, k < 8 → M.1 589 (8 * q + k) = tb q k) (h5 : A0.1 5 = 0) : Met l y_Mo_runOn (Cond.code y_Mo_runOn b_Mo_runOn 3 none :: fm_T0) ({ frames := 8, cells := 0, slots := 0, locals := 240 }) (fm_Pc fm_lay fm_nf fm_fk fm_cl b x D dA (fm_tys dA) (fm_EX b x) false [.ref 586, .int (nI gi)] n M) (fm_Qc fm_lay fm_nf fm_fk fm_cl b x D dA (fun r n' M' => r = none ∧ n' = n ∧ M'.1 586 48 = nI (fa_run sc tb 200 A0 j [] none).1.length ∧ (fa_run sc tb 200 A0 j [] none).1.length ≤ 16 ∧ (∀ i x, (fa_run sc tb 200 A0 j [] none).1[i]? = some x → M'.1 628 i = x) ∧ fx_R M M' ∧ (gi = 97 → M'.1 586 47 = M.1 586 47))) 0 0 (fm_A b) := by
  refine fm_enter (by decide) (Nat.le_of_ble_eq_true rfl) ?_
  intro p e s m args below meth c9 hc hr hnm hex htg
  have ha8 : a < 8 := by omega
  have hsb : ∀ k v : Nat, sc[k]? = some v → v < 256 := fun k v hv => (hs.2.2 k v hv).2
  have hsl : sc.length ≤ 48 := hs.2.1
  refine fm_aload_n hc d_Mo_runOn_0 rfl rfl ?_
  refine fm_iconst (v := nI 0) hc d_Mo_runOn_1 rfl ?_
  refine fm_putI (k := 48) (v := nI 0) hc K_Mo d_Mo_runOn_2 q_933 rfl (by decide) (by omega) (by decide) (by decide) (by decide) rfl rfl rfl rfl ?_
  refine fm_mem (M' := fm_put1 M 586 48 (nI 0)) rfl rfl ?_
  refine fm_iconst (v := nI 1) hc d_Mo_runOn_5 rfl ?_
  refine fm_istore_n (lv' := [(2, .int (nI 1)), (0, .ref 586), (1, .int (nI gi))]) hc d_Mo_runOn_6 rfl (by decide) rfl ?_
  obtain ⟨RR, hRR⟩ : ∃ RR, RR = (fa_run sc tb 200 A0 j [] none) := ⟨_, rfl⟩
  rw [← hRR]
  have w6 : A0.1 4 + A0.1 3 ≤ 200 := hw.2.2.2.2.2.1
  refine fm_loopS (σ := Nat × ag_T × Nat × List Int32 × fa_C) (N := 200) (lv := fun k t => [(2, .int (nI t.1)), (0, .ref 586), (1, .int (nI gi))]) (I := fun k t M' => (∃ g', hr_G M' gi F_f t.2.1 g') ∧ ag_wf a t.2.1 ∧ t.2.1.1 1 = p0 ∧ t.2.2.1 < 4 ∧ M'.1 586 46 = nI t.2.2.1 ∧ t.2.2.2.1.length = t.2.1.1 5 ∧ M'.1 586 48 = nI t.2.2.2.1.length ∧ (∀ i x, t.2.2.2.1[i]? = some x → M'.1 628 i = x) ∧ t.2.1.1 3 + k ≤ 200 ∧ fx_R M M' ∧ (gi = 97 → M'.1 586 47 = M.1 586 47) ∧ t.1 ≤ 1 ∧ (t.1 = 1 → fa_run sc tb (200 - k) t.2.1 t.2.2.1 t.2.2.2.1 t.2.2.2.2 = RR) ∧ (t.1 = 0 → (t.2.2.2.1, t.2.2.2.2) = RR)) (fun k t Mi hk hI ih => ?_) (fun t Mi hI => ?_) (t0 := (1, A0, j, [], none)) ⟨⟨g0, hrG_o1 (Or.inl (by decide)) h⟩, hw, h1, hj, (p1_at (by decide)).trans hfh, h5.symm, p1_same _ _ _ _, fun i x hx => by simp at hx, by show A0.1 3 + 0 ≤ 200; omega, fxR_p (Or.inl ⟨rfl, by decide, by decide⟩), fun _ => p1_at (by decide), Nat.le_refl 1, fun _ => hRR.symm, fun e => absurd e (show ¬ (1 : Nat) = 0 by decide)⟩
  · obtain ⟨on, A, he, W, c⟩ := t
    obtain ⟨⟨gg, i1⟩, i2, i3, i4, i5, i6, i7, i8, i9, i10, i11, i12, i13, i14⟩ := hI
    replace i1 : hr_G Mi gi F_f A gg := i1
    replace i2 : ag_wf a A := i2
    replace i3 : A.1 1 = p0 := i3
    replace i4 : he < 4 := i4
    replace i5 : Mi.1 586 46 = nI he := i5
    replace i6 : W.length = A.1 5 := i6
    replace i7 : Mi.1 586 48 = nI W.length := i7
    replace i12 : on ≤ 1 := i12
    have hRi := fxR_RP i10 hR
    have w5 : A.1 5 ≤ 16 := i2.2.2.2.2.2.2.1
    have hfu : Mi.1 607 gi = nI (A.1 3) := i1.1 3 (by decide) (by decide) ⟨by decide, by decide⟩
    replace i9 : A.1 3 + k ≤ 200 := i9
    rcases (show on = 0 ∨ on = 1 by omega) with rfl | rfl
    · refine fm_iload_n hc d_Mo_runOn_7 rfl rfl ?_
      refine fm_if_eq (tgt := 45) hc d_Mo_runOn_8 rfl (fun _ => ?_) (fun gQ => absurd (show nI 0 = 0 by decide) gQ)
      exact fm_vret hc hr d_Mo_runOn_45 (Nat.le_refl _) (Nat.le_refl _) ⟨rfl, rfl, by rw [← i14 rfl]; exact ⟨i7, Nat.le_trans (Nat.le_of_eq i6) w5, i8, i10, i11⟩⟩
    · have i13 : fa_run sc tb (200 - k) A he W c = RR := i13 rfl
      by_cases g0 : A.1 3 = 0
      · refine fm_iload_n hc d_Mo_runOn_7 rfl rfl ?_
        refine fm_if_eq (tgt := 45) hc d_Mo_runOn_8 rfl (fun gQ => absurd gQ (show ¬ nI 1 = 0 by decide)) (fun _ => ?_)
        refine fm_aload_n hc d_Mo_runOn_11 rfl rfl ?_
        refine fm_getR (k := 22) (q := 607) hc K_Mo d_Mo_runOn_12 q_907 rfl (by decide) (by omega) (by decide) (by decide) (by decide) rfl (rp_fuel hRi) ?_
        refine fm_iload_n hc d_Mo_runOn_15 rfl rfl ?_
        refine fm_iald (j := gi) (len := 98) hc 0 d_Mo_runOn_16 (by decide) (by omega) (by decide) rfl (by omega) (by decide) ?_
        refine fm_top (congrArg Value.int (show Mi.1 607 gi = nI (A.1 3) from hfu)) ?_
        refine fm_if_le (tgt := 45) hc d_Mo_runOn_17 rfl (fun _ => ?_) (fun gQ => absurd (by rw [g0]; decide) gQ)
        exact fm_vret hc hr d_Mo_runOn_45 (Nat.le_refl _) (Nat.le_refl _) ⟨rfl, rfl, by rw [← i13, fa_stop g0]; exact ⟨i7, Nat.le_trans (Nat.le_of_eq i6) w5, i8, i10, i11⟩⟩
      · have e200 : 200 - k = (200 - (k + 1)) + 1 := by omega
        rw [e200, fa_go g0] at i13
        have hwork := rc_work_f (l := l) (b := b) (x := x) (D := D) (dA := dA) (n := n) (M := Mi) (gi := gi) (he := he) (N := A.1) (s0 := A.2.1) (p := A.2.2) (g := gg) (sc := sc) (tbl := tb he) hn hRi i5 i4 hg (by rw [i2.2.2.1]; omega) (i7.trans (congrArg nI i6)) i1 i2.1 i2.2.1 (by omega) (by rw [i3]; exact hsR_x i10 hs) (fun c hc => by rw [i10.1.2.2.1 589 (by decide) (by decide)]; exact htb he i4 c hc) (by have := i2.2.2.2.2.1; omega) (by omega) (by omega) (by omega) i2.2.2.2.2.2.2.2.2
        obtain ⟨s1, s2, s3, s4, s5, s6, s7⟩ := step_wf (he := he) (tbl := tb he) i2 (by omega) hsb hsl
        have k3 := kid_wf (he := he) (tbl := tb he) i2 (by omega) hsb hsl
        have e1 := step_1 (sc := sc) (tbl := tb he) (he := he) (A := A)
        generalize (ag_step sc (tb he) he A) = st at *
        obtain ⟨ak, av, P⟩ := st
        have s2 : ak ≤ 5 := s2
        have s1 : ag_wf a P := s1
        have e1 : P.1 1 = A.1 1 := e1
        have s3 : P.1 5 = if ak = 1 then A.1 5 + 1 else A.1 5 := s3
        have s5 : P.1 3 < A.1 3 := s5
        have s6 : P.1 7 = if ak = 3 then 1 else A.1 7 := s6
        rcases (show ak = 0 ∨ ak = 1 ∨ ak = 2 ∨ ak = 3 ∨ ak = 4 ∨ ak = 5 by omega) with rfl | rfl | rfl | rfl | rfl | rfl
        · clear s7 k3
          refine fm_iload_n hc d_Mo_runOn_7 rfl rfl ?_
          refine fm_if_eq (tgt := 45) hc d_Mo_runOn_8 rfl (fun gQ => absurd gQ (show ¬ nI 1 = 0 by decide)) (fun _ => ?_)
          refine fm_aload_n hc d_Mo_runOn_11 rfl rfl ?_
          refine fm_getR (k := 22) (q := 607) hc K_Mo d_Mo_runOn_12 q_907 rfl (by decide) (by omega) (by decide) (by decide) (by decide) rfl (rp_fuel hRi) ?_
          refine fm_iload_n hc d_Mo_runOn_15 rfl rfl ?_
          refine fm_iald (j := gi) (len := 98) hc 0 d_Mo_runOn_16 (by decide) (by omega) (by decide) rfl (by omega) (by decide) ?_
          refine fm_top (congrArg Value.int (show Mi.1 607 gi = nI (A.1 3) from hfu)) ?_
          refine fm_if_le (tgt := 45) hc d_Mo_runOn_17 rfl (fun gQ => absurd gQ (fun q => g0 (by have := (nI_leI (a := A.1 3) (b := 0) (by omega) (by decide)).mp q; omega))) (fun _ => ?_)
          refine fm_aload_n hc d_Mo_runOn_20 rfl rfl ?_
          refine fm_iload_n hc d_Mo_runOn_21 rfl rfl ?_
          refine fm_iconst (v := (-1)) hc d_Mo_runOn_22 rfl ?_
          refine fm_callV (av := [.int (nI gi), .int ((-1))]) (rest := []) (ob := 586) (ci := 11) (r0 := ("AgentNetModel", F_Mo, 51)) (y := y_Mo_work) (bytes := b_Mo_work) hc fm_T0_good (fm_EX_st b x) hex q_1082 q_13 q_1079 q_1081 qs_Mo_work pd_Mo_work (by decide) (by omega) (by decide) (by decide) rfl rfl (hwork) ⟨rfl, rfl, Nat.le_of_ble_eq_true rfl, Nat.le_of_ble_eq_true rfl⟩ ⟨Nat.le_of_ble_eq_true rfl, Nat.le_of_ble_eq_true rfl⟩ d_Mo_runOn_23 (Nat.le_of_ble_eq_true rfl) (fun r n2 M2 hp => ?_)
          obtain ⟨rfl, hq1, r1⟩ := hp
          replace hq1 := hq1.symm
          subst hq1
          revert r1
          generalize M2 = Ma
          intro r1
          have r1 : rW_g (A.1 5) gi Mi A (0, av, P) Ma := r1
          obtain ⟨x1, x2, x3, x4, x5, x6, x7, x8⟩ := rW_x (by omega) (by decide) r1
          have hRa := fxR_RP x1 hRi
          refine fm_cnt (z' := (0, 0)) rfl (fm_st (st' := [.int (nI 1)]) rfl ?_)
          refine fm_if_eq (tgt := 40) hc d_Mo_runOn_26 rfl (fun gQ => absurd gQ (by decide)) (fun _ => ?_)
          refine fm_aload_n hc d_Mo_runOn_29 rfl rfl ?_
          refine fm_getI (k := 50) hc K_Mo d_Mo_runOn_30 q_935 rfl (by decide) (by omega) (by decide) (by decide) (by decide) rfl ?_
          refine fm_top (congrArg Value.int (show Ma.1 586 50 = nI 0 from x6)) ?_
          refine fm_if_ne (tgt := 40) hc d_Mo_runOn_33 rfl (fun gQ => absurd (show nI 0 = 0 by decide) gQ) (fun _ => ?_)
          refine fm_iconst (v := nI 1) hc d_Mo_runOn_36 rfl ?_
          refine fm_goto (tgt := 41) hc d_Mo_runOn_37 rfl ?_
          refine fm_istore_n (lv' := [(2, .int (nI 1)), (0, .ref 586), (1, .int (nI gi))]) hc d_Mo_runOn_41 rfl (by decide) rfl ?_
          refine fm_goto (tgt := 7) hc d_Mo_runOn_42 rfl ?_
          refine fm_dropl (lv' := [(2, .int (nI 1)), (0, .ref 586), (1, .int (nI gi))]) (by simp) ?_
          exact ih (1, P, he, W, c) _ ⟨x2, s1, e1.trans i3, i4, x3.trans i5, i6.trans (by rw [s3, if_neg (by decide)]), x4.trans i7, fun i x hx => (x5 i).trans (by rw [if_neg (by omega)]; exact i8 i x hx), (show P.1 3 + (k + 1) ≤ 200 by omega), fxR_tr i10 x1, fun e => x7.trans (i11 e), Nat.le_refl 1, fun _ => by rw [← i13, fa_next, if_neg (show ¬ (0 : Nat) = 1 by decide), if_neg (show ¬ (0 : Nat) = 2 by decide), if_neg (show ¬ (0 : Nat) = 3 by decide), if_pos (show (0 : Nat) = 0 from rfl)], fun e => absurd e (show ¬ (1 : Nat) = 0 by decide)⟩
        · clear s7 k3
          refine fm_iload_n hc d_Mo_runOn_7 rfl rfl ?_
          refine fm_if_eq (tgt := 45) hc d_Mo_runOn_8 rfl (fun gQ => absurd gQ (show ¬ nI 1 = 0 by decide)) (fun _ => ?_)
          refine fm_aload_n hc d_Mo_runOn_11 rfl rfl ?_
          refine fm_getR (k := 22) (q := 607) hc K_Mo d_Mo_runOn_12 q_907 rfl (by decide) (by omega) (by decide) (by decide) (by decide) rfl (rp_fuel hRi) ?_
          refine fm_iload_n hc d_Mo_runOn_15 rfl rfl ?_
          refine fm_iald (j := gi) (len := 98) hc 0 d_Mo_runOn_16 (by decide) (by omega) (by decide) rfl (by omega) (by decide) ?_
          refine fm_top (congrArg Value.int (show Mi.1 607 gi = nI (A.1 3) from hfu)) ?_
          refine fm_if_le (tgt := 45) hc d_Mo_runOn_17 rfl (fun gQ => absurd gQ (fun q => g0 (by have := (nI_leI (a := A.1 3) (b := 0) (by omega) (by decide)).mp q; omega))) (fun _ => ?_)
          refine fm_aload_n hc d_Mo_runOn_20 rfl rfl ?_
          refine fm_iload_n hc d_Mo_runOn_21 rfl rfl ?_
          refine fm_iconst (v := (-1)) hc d_Mo_runOn_22 rfl ?_
          refine fm_callV (av := [.int (nI gi), .int ((-1))]) (rest := []) (ob := 586) (ci := 11) (r0 := ("AgentNetModel", F_Mo, 51)) (y := y_Mo_work) (bytes := b_Mo_work) hc fm_T0_good (fm_EX_st b x) hex q_1082 q_13 q_1079 q_1081 qs_Mo_work pd_Mo_work (by decide) (by omega) (by decide) (by decide) rfl rfl (hwork) ⟨rfl, rfl, Nat.le_of_ble_eq_true rfl, Nat.le_of_ble_eq_true rfl⟩ ⟨Nat.le_of_ble_eq_true rfl, Nat.le_of_ble_eq_true rfl⟩ d_Mo_runOn_23 (Nat.le_of_ble_eq_true rfl) (fun r n2 M2 hp => ?_)
          obtain ⟨rfl, hq1, r1⟩ := hp
          replace hq1 := hq1.symm
          subst hq1
          revert r1
          generalize M2 = Ma
          intro r1
          have r1 : rW_g (A.1 5) gi Mi A (1, av, P) Ma := r1
          obtain ⟨x1, x2, x3, x4, x5, x6, x7, x8⟩ := rW_x (by omega) (by decide) r1
          have hRa := fxR_RP x1 hRi
          refine fm_cnt (z' := (0, 0)) rfl (fm_st (st' := [.int (nI 1)]) rfl ?_)
          refine fm_if_eq (tgt := 40) hc d_Mo_runOn_26 rfl (fun gQ => absurd gQ (by decide)) (fun _ => ?_)
          refine fm_aload_n hc d_Mo_runOn_29 rfl rfl ?_
          refine fm_getI (k := 50) hc K_Mo d_Mo_runOn_30 q_935 rfl (by decide) (by omega) (by decide) (by decide) (by decide) rfl ?_
          refine fm_top (congrArg Value.int (show Ma.1 586 50 = nI 0 from x6)) ?_
          refine fm_if_ne (tgt := 40) hc d_Mo_runOn_33 rfl (fun gQ => absurd (show nI 0 = 0 by decide) gQ) (fun _ => ?_)
          refine fm_iconst (v := nI 1) hc d_Mo_runOn_36 rfl ?_
          refine fm_goto (tgt := 41) hc d_Mo_runOn_37 rfl ?_
          refine fm_istore_n (lv' := [(2, .int (nI 1)), (0, .ref 586), (1, .int (nI gi))]) hc d_Mo_runOn_41 rfl (by decide) rfl ?_
          refine fm_goto (tgt := 7) hc d_Mo_runOn_42 rfl ?_
          refine fm_dropl (lv' := [(2, .int (nI 1)), (0, .ref 586), (1, .int (nI gi))]) (by simp) ?_
          exact ih (1, P, he, W ++ [av], c) _ ⟨x2, s1, e1.trans i3, i4, x3.trans i5, (by rw [List.length_append, s3, if_pos rfl, ← i6]; rfl), (by rw [x4, if_pos rfl, List.length_append, i6]; rfl), fun i x hx => (x5 i).trans (by
            rcases ap_at hx with ⟨q1, q2⟩ | ⟨q1, q2⟩
            · rw [if_neg (fun q => q1 (by rw [q.2, i6]))]; exact i8 i x q2
            · rw [if_pos ⟨rfl, by rw [q1, i6]⟩, q2]), (show P.1 3 + (k + 1) ≤ 200 by omega), fxR_tr i10 x1, fun e => x7.trans (i11 e), Nat.le_refl 1, fun _ => by rw [← i13, fa_next, if_pos (show (1 : Nat) = 1 from rfl)], fun e => absurd e (show ¬ (1 : Nat) = 0 by decide)⟩
        · obtain ⟨d, hd4, hdn, hde⟩ := s7 rfl
          have hde : av = nI d := hde
          have hd : av.toInt.toNat = d := by rw [hde, nI_int (by omega)]; rfl
          clear s7 k3 hdn
          refine fm_iload_n hc d_Mo_runOn_7 rfl rfl ?_
          refine fm_if_eq (tgt := 45) hc d_Mo_runOn_8 rfl (fun gQ => absurd gQ (show ¬ nI 1 = 0 by decide)) (fun _ => ?_)
          refine fm_aload_n hc d_Mo_runOn_11 rfl rfl ?_
          refine fm_getR (k := 22) (q := 607) hc K_Mo d_Mo_runOn_12 q_907 rfl (by decide) (by omega) (by decide) (by decide) (by decide) rfl (rp_fuel hRi) ?_
          refine fm_iload_n hc d_Mo_runOn_15 rfl rfl ?_
          refine fm_iald (j := gi) (len := 98) hc 0 d_Mo_runOn_16 (by decide) (by omega) (by decide) rfl (by omega) (by decide) ?_
          refine fm_top (congrArg Value.int (show Mi.1 607 gi = nI (A.1 3) from hfu)) ?_
          refine fm_if_le (tgt := 45) hc d_Mo_runOn_17 rfl (fun gQ => absurd gQ (fun q => g0 (by have := (nI_leI (a := A.1 3) (b := 0) (by omega) (by decide)).mp q; omega))) (fun _ => ?_)
          refine fm_aload_n hc d_Mo_runOn_20 rfl rfl ?_
          refine fm_iload_n hc d_Mo_runOn_21 rfl rfl ?_
          refine fm_iconst (v := (-1)) hc d_Mo_runOn_22 rfl ?_
          refine fm_callV (av := [.int (nI gi), .int ((-1))]) (rest := []) (ob := 586) (ci := 11) (r0 := ("AgentNetModel", F_Mo, 51)) (y := y_Mo_work) (bytes := b_Mo_work) hc fm_T0_good (fm_EX_st b x) hex q_1082 q_13 q_1079 q_1081 qs_Mo_work pd_Mo_work (by decide) (by omega) (by decide) (by decide) rfl rfl (hwork) ⟨rfl, rfl, Nat.le_of_ble_eq_true rfl, Nat.le_of_ble_eq_true rfl⟩ ⟨Nat.le_of_ble_eq_true rfl, Nat.le_of_ble_eq_true rfl⟩ d_Mo_runOn_23 (Nat.le_of_ble_eq_true rfl) (fun r n2 M2 hp => ?_)
          obtain ⟨rfl, hq1, r1⟩ := hp
          replace hq1 := hq1.symm
          subst hq1
          revert r1
          generalize M2 = Ma
          intro r1
          have r1 : rW_g (A.1 5) gi Mi A (2, av, P) Ma := r1
          obtain ⟨x1, x2, x3, x4, x5, x6, x7, x8⟩ := rW_x (by omega) (by decide) r1
          have hRa := fxR_RP x1 hRi
          refine fm_cnt (z' := (0, 0)) rfl (fm_st (st' := [.int (nI 1)]) rfl ?_)
          refine fm_if_eq (tgt := 40) hc d_Mo_runOn_26 rfl (fun gQ => absurd gQ (by decide)) (fun _ => ?_)
          refine fm_aload_n hc d_Mo_runOn_29 rfl rfl ?_
          refine fm_getI (k := 50) hc K_Mo d_Mo_runOn_30 q_935 rfl (by decide) (by omega) (by decide) (by decide) (by decide) rfl ?_
          refine fm_top (congrArg Value.int (show Ma.1 586 50 = nI 0 from x6)) ?_
          refine fm_if_ne (tgt := 40) hc d_Mo_runOn_33 rfl (fun gQ => absurd (show nI 0 = 0 by decide) gQ) (fun _ => ?_)
          refine fm_iconst (v := nI 1) hc d_Mo_runOn_36 rfl ?_
          refine fm_goto (tgt := 41) hc d_Mo_runOn_37 rfl ?_
          refine fm_istore_n (lv' := [(2, .int (nI 1)), (0, .ref 586), (1, .int (nI gi))]) hc d_Mo_runOn_41 rfl (by decide) rfl ?_
          refine fm_goto (tgt := 7) hc d_Mo_runOn_42 rfl ?_
          refine fm_dropl (lv' := [(2, .int (nI 1)), (0, .ref 586), (1, .int (nI gi))]) (by simp) ?_
          exact ih (1, P, d, W, c) _ ⟨x2, s1, e1.trans i3, hd4, x3.trans hde, i6.trans (by rw [s3, if_neg (by decide)]), x4.trans i7, fun i x hx => (x5 i).trans (by rw [if_neg (by omega)]; exact i8 i x hx), (show P.1 3 + (k + 1) ≤ 200 by omega), fxR_tr i10 x1, fun e => x7.trans (i11 e), Nat.le_refl 1, fun _ => by rw [← i13, fa_next, if_neg (show ¬ (2 : Nat) = 1 by decide), if_pos (show (2 : Nat) = 2 from rfl), hd], fun e => absurd e (show ¬ (1 : Nat) = 0 by decide)⟩
        · obtain ⟨a4, -, -⟩ := k3 rfl
          clear s7 k3
          refine fm_iload_n hc d_Mo_runOn_7 rfl rfl ?_
          refine fm_if_eq (tgt := 45) hc d_Mo_runOn_8 rfl (fun gQ => absurd gQ (show ¬ nI 1 = 0 by decide)) (fun _ => ?_)
          refine fm_aload_n hc d_Mo_runOn_11 rfl rfl ?_
          refine fm_getR (k := 22) (q := 607) hc K_Mo d_Mo_runOn_12 q_907 rfl (by decide) (by omega) (by decide) (by decide) (by decide) rfl (rp_fuel hRi) ?_
          refine fm_iload_n hc d_Mo_runOn_15 rfl rfl ?_
          refine fm_iald (j := gi) (len := 98) hc 0 d_Mo_runOn_16 (by decide) (by omega) (by decide) rfl (by omega) (by decide) ?_
          refine fm_top (congrArg Value.int (show Mi.1 607 gi = nI (A.1 3) from hfu)) ?_
          refine fm_if_le (tgt := 45) hc d_Mo_runOn_17 rfl (fun gQ => absurd gQ (fun q => g0 (by have := (nI_leI (a := A.1 3) (b := 0) (by omega) (by decide)).mp q; omega))) (fun _ => ?_)
          refine fm_aload_n hc d_Mo_runOn_20 rfl rfl ?_
          refine fm_iload_n hc d_Mo_runOn_21 rfl rfl ?_
          refine fm_iconst (v := (-1)) hc d_Mo_runOn_22 rfl ?_
          refine fm_callV (av := [.int (nI gi), .int ((-1))]) (rest := []) (ob := 586) (ci := 11) (r0 := ("AgentNetModel", F_Mo, 51)) (y := y_Mo_work) (bytes := b_Mo_work) hc fm_T0_good (fm_EX_st b x) hex q_1082 q_13 q_1079 q_1081 qs_Mo_work pd_Mo_work (by decide) (by omega) (by decide) (by decide) rfl rfl (hwork) ⟨rfl, rfl, Nat.le_of_ble_eq_true rfl, Nat.le_of_ble_eq_true rfl⟩ ⟨Nat.le_of_ble_eq_true rfl, Nat.le_of_ble_eq_true rfl⟩ d_Mo_runOn_23 (Nat.le_of_ble_eq_true rfl) (fun r n2 M2 hp => ?_)
          obtain ⟨rfl, hq1, r1⟩ := hp
          replace hq1 := hq1.symm
          subst hq1
          revert r1
          generalize M2 = Ma
          intro r1
          have r1 : rW_g (A.1 5) gi Mi A (3, av, P) Ma := r1
          obtain ⟨x1, x2, x3, x4, x5, x6, x7, x8⟩ := rW_x (by omega) (by decide) r1
          have hRa := fxR_RP x1 hRi
          refine fm_cnt (z' := (0, 0)) rfl (fm_st (st' := [.int (nI 1)]) rfl ?_)
          refine fm_if_eq (tgt := 40) hc d_Mo_runOn_26 rfl (fun gQ => absurd gQ (by decide)) (fun _ => ?_)
          refine fm_aload_n hc d_Mo_runOn_29 rfl rfl ?_
          refine fm_getI (k := 50) hc K_Mo d_Mo_runOn_30 q_935 rfl (by decide) (by omega) (by decide) (by decide) (by decide) rfl ?_
          refine fm_top (congrArg Value.int (show Ma.1 586 50 = nI 0 from x6)) ?_
          refine fm_if_ne (tgt := 40) hc d_Mo_runOn_33 rfl (fun gQ => absurd (show nI 0 = 0 by decide) gQ) (fun _ => ?_)
          refine fm_iconst (v := nI 1) hc d_Mo_runOn_36 rfl ?_
          refine fm_goto (tgt := 41) hc d_Mo_runOn_37 rfl ?_
          refine fm_istore_n (lv' := [(2, .int (nI 1)), (0, .ref 586), (1, .int (nI gi))]) hc d_Mo_runOn_41 rfl (by decide) rfl ?_
          refine fm_goto (tgt := 7) hc d_Mo_runOn_42 rfl ?_
          refine fm_dropl (lv' := [(2, .int (nI 1)), (0, .ref 586), (1, .int (nI gi))]) (by simp) ?_
          exact ih (1, P, he, W, some (ag_kidOf A av.toInt.toNat, he)) _ ⟨x2, s1, e1.trans i3, i4, x3.trans i5, i6.trans (by rw [s3, if_neg (by decide)]), x4.trans i7, fun i x hx => (x5 i).trans (by rw [if_neg (by omega)]; exact i8 i x hx), (show P.1 3 + (k + 1) ≤ 200 by omega), fxR_tr i10 x1, fun e => absurd a4 (by omega), Nat.le_refl 1, fun _ => by rw [← i13, fa_next, if_neg (show ¬ (3 : Nat) = 1 by decide), if_neg (show ¬ (3 : Nat) = 2 by decide), if_pos (show (3 : Nat) = 3 from rfl)], fun e => absurd e (show ¬ (1 : Nat) = 0 by decide)⟩
        · clear s7 k3
          refine fm_iload_n hc d_Mo_runOn_7 rfl rfl ?_
          refine fm_if_eq (tgt := 45) hc d_Mo_runOn_8 rfl (fun gQ => absurd gQ (show ¬ nI 1 = 0 by decide)) (fun _ => ?_)
          refine fm_aload_n hc d_Mo_runOn_11 rfl rfl ?_
          refine fm_getR (k := 22) (q := 607) hc K_Mo d_Mo_runOn_12 q_907 rfl (by decide) (by omega) (by decide) (by decide) (by decide) rfl (rp_fuel hRi) ?_
          refine fm_iload_n hc d_Mo_runOn_15 rfl rfl ?_
          refine fm_iald (j := gi) (len := 98) hc 0 d_Mo_runOn_16 (by decide) (by omega) (by decide) rfl (by omega) (by decide) ?_
          refine fm_top (congrArg Value.int (show Mi.1 607 gi = nI (A.1 3) from hfu)) ?_
          refine fm_if_le (tgt := 45) hc d_Mo_runOn_17 rfl (fun gQ => absurd gQ (fun q => g0 (by have := (nI_leI (a := A.1 3) (b := 0) (by omega) (by decide)).mp q; omega))) (fun _ => ?_)
          refine fm_aload_n hc d_Mo_runOn_20 rfl rfl ?_
          refine fm_iload_n hc d_Mo_runOn_21 rfl rfl ?_
          refine fm_iconst (v := (-1)) hc d_Mo_runOn_22 rfl ?_
          refine fm_callV (av := [.int (nI gi), .int ((-1))]) (rest := []) (ob := 586) (ci := 11) (r0 := ("AgentNetModel", F_Mo, 51)) (y := y_Mo_work) (bytes := b_Mo_work) hc fm_T0_good (fm_EX_st b x) hex q_1082 q_13 q_1079 q_1081 qs_Mo_work pd_Mo_work (by decide) (by omega) (by decide) (by decide) rfl rfl (hwork) ⟨rfl, rfl, Nat.le_of_ble_eq_true rfl, Nat.le_of_ble_eq_true rfl⟩ ⟨Nat.le_of_ble_eq_true rfl, Nat.le_of_ble_eq_true rfl⟩ d_Mo_runOn_23 (Nat.le_of_ble_eq_true rfl) (fun r n2 M2 hp => ?_)
          obtain ⟨rfl, hq1, r1⟩ := hp
          replace hq1 := hq1.symm
          subst hq1
          revert r1
          generalize M2 = Ma
          intro r1
          have r1 : rW_g (A.1 5) gi Mi A (4, av, P) Ma := r1
          obtain ⟨x1, x2, x3, x4, x5, x6, x7, x8⟩ := rW_x (by omega) (by decide) r1
          have hRa := fxR_RP x1 hRi
          refine fm_cnt (z' := (0, 0)) rfl (fm_st (st' := [.int (nI 1)]) rfl ?_)
          refine fm_if_eq (tgt := 40) hc d_Mo_runOn_26 rfl (fun gQ => absurd gQ (by decide)) (fun _ => ?_)
          refine fm_aload_n hc d_Mo_runOn_29 rfl rfl ?_
          refine fm_getI (k := 50) hc K_Mo d_Mo_runOn_30 q_935 rfl (by decide) (by omega) (by decide) (by decide) (by decide) rfl ?_
          refine fm_top (congrArg Value.int (show Ma.1 586 50 = nI 1 from x6)) ?_
          refine fm_if_ne (tgt := 40) hc d_Mo_runOn_33 rfl (fun _ => ?_) (fun gQ => absurd gQ (by decide))
          refine fm_iconst (v := nI 0) hc d_Mo_runOn_40 rfl ?_
          refine fm_istore_n (lv' := [(2, .int (nI 0)), (0, .ref 586), (1, .int (nI gi))]) hc d_Mo_runOn_41 rfl (by decide) rfl ?_
          refine fm_goto (tgt := 7) hc d_Mo_runOn_42 rfl ?_
          refine fm_dropl (lv' := [(2, .int (nI 0)), (0, .ref 586), (1, .int (nI gi))]) (by simp) ?_
          exact ih (0, P, he, W, c) _ ⟨x2, s1, e1.trans i3, i4, x3.trans i5, i6.trans (by rw [s3, if_neg (by decide)]), x4.trans i7, fun i x hx => (x5 i).trans (by rw [if_neg (by omega)]; exact i8 i x hx), (show P.1 3 + (k + 1) ≤ 200 by omega), fxR_tr i10 x1, fun e => x7.trans (i11 e), Nat.zero_le 1, fun e => absurd e (show ¬ (0 : Nat) = 1 by decide), fun _ => by rw [← i13, fa_next, if_neg (show ¬ (4 : Nat) = 1 by decide), if_neg (show ¬ (4 : Nat) = 2 by decide), if_neg (show ¬ (4 : Nat) = 3 by decide), if_neg (show ¬ (4 : Nat) = 0 by decide)]⟩
        · clear s7 k3
          refine fm_iload_n hc d_Mo_runOn_7 rfl rfl ?_
          refine fm_if_eq (tgt := 45) hc d_Mo_runOn_8 rfl (fun gQ => absurd gQ (show ¬ nI 1 = 0 by decide)) (fun _ => ?_)
          refine fm_aload_n hc d_Mo_runOn_11 rfl rfl ?_
          refine fm_getR (k := 22) (q := 607) hc K_Mo d_Mo_runOn_12 q_907 rfl (by decide) (by omega) (by decide) (by decide) (by decide) rfl (rp_fuel hRi) ?_
          refine fm_iload_n hc d_Mo_runOn_15 rfl rfl ?_
          refine fm_iald (j := gi) (len := 98) hc 0 d_Mo_runOn_16 (by decide) (by omega) (by decide) rfl (by omega) (by decide) ?_
          refine fm_top (congrArg Value.int (show Mi.1 607 gi = nI (A.1 3) from hfu)) ?_
          refine fm_if_le (tgt := 45) hc d_Mo_runOn_17 rfl (fun gQ => absurd gQ (fun q => g0 (by have := (nI_leI (a := A.1 3) (b := 0) (by omega) (by decide)).mp q; omega))) (fun _ => ?_)
          refine fm_aload_n hc d_Mo_runOn_20 rfl rfl ?_
          refine fm_iload_n hc d_Mo_runOn_21 rfl rfl ?_
          refine fm_iconst (v := (-1)) hc d_Mo_runOn_22 rfl ?_
          refine fm_callV (av := [.int (nI gi), .int ((-1))]) (rest := []) (ob := 586) (ci := 11) (r0 := ("AgentNetModel", F_Mo, 51)) (y := y_Mo_work) (bytes := b_Mo_work) hc fm_T0_good (fm_EX_st b x) hex q_1082 q_13 q_1079 q_1081 qs_Mo_work pd_Mo_work (by decide) (by omega) (by decide) (by decide) rfl rfl (hwork) ⟨rfl, rfl, Nat.le_of_ble_eq_true rfl, Nat.le_of_ble_eq_true rfl⟩ ⟨Nat.le_of_ble_eq_true rfl, Nat.le_of_ble_eq_true rfl⟩ d_Mo_runOn_23 (Nat.le_of_ble_eq_true rfl) (fun r n2 M2 hp => ?_)
          obtain ⟨rfl, hq1, r1⟩ := hp
          replace hq1 := hq1.symm
          subst hq1
          revert r1
          generalize M2 = Ma
          intro r1
          have r1 : rW_g (A.1 5) gi Mi A (5, av, P) Ma := r1
          obtain ⟨x1, x2, x3, x4, x5, x6, x7, x8⟩ := rW_x (by omega) (by decide) r1
          have hRa := fxR_RP x1 hRi
          refine fm_cnt (z' := (0, 0)) rfl (fm_st (st' := [.int (nI 0)]) rfl ?_)
          refine fm_if_eq (tgt := 40) hc d_Mo_runOn_26 rfl (fun _ => ?_) (fun gQ => absurd (show nI 0 = 0 by decide) gQ)
          refine fm_iconst (v := nI 0) hc d_Mo_runOn_40 rfl ?_
          refine fm_istore_n (lv' := [(2, .int (nI 0)), (0, .ref 586), (1, .int (nI gi))]) hc d_Mo_runOn_41 rfl (by decide) rfl ?_
          refine fm_goto (tgt := 7) hc d_Mo_runOn_42 rfl ?_
          refine fm_dropl (lv' := [(2, .int (nI 0)), (0, .ref 586), (1, .int (nI gi))]) (by simp) ?_
          exact ih (0, P, he, W, c) _ ⟨x2, s1, e1.trans i3, i4, x3.trans i5, i6.trans (by rw [s3, if_neg (by decide)]), x4.trans i7, fun i x hx => (x5 i).trans (by rw [if_neg (by omega)]; exact i8 i x hx), (show P.1 3 + (k + 1) ≤ 200 by omega), fxR_tr i10 x1, fun e => x7.trans (i11 e), Nat.zero_le 1, fun e => absurd e (show ¬ (0 : Nat) = 1 by decide), fun _ => by rw [← i13, fa_next, if_neg (show ¬ (5 : Nat) = 1 by decide), if_neg (show ¬ (5 : Nat) = 2 by decide), if_neg (show ¬ (5 : Nat) = 3 by decide), if_neg (show ¬ (5 : Nat) = 0 by decide)]⟩
  · obtain ⟨on, A, he, W, c⟩ := t
    obtain ⟨⟨gg, i1⟩, i2, i3, i4, i5, i6, i7, i8, i9, i10, i11, i12, i13, i14⟩ := hI
    replace i1 : hr_G Mi gi F_f A gg := i1
    replace i2 : ag_wf a A := i2
    replace i3 : A.1 1 = p0 := i3
    replace i4 : he < 4 := i4
    replace i5 : Mi.1 586 46 = nI he := i5
    replace i6 : W.length = A.1 5 := i6
    replace i7 : Mi.1 586 48 = nI W.length := i7
    replace i12 : on ≤ 1 := i12
    have hRi := fxR_RP i10 hR
    have w5 : A.1 5 ≤ 16 := i2.2.2.2.2.2.2.1
    have hfu : Mi.1 607 gi = nI (A.1 3) := i1.1 3 (by decide) (by decide) ⟨by decide, by decide⟩
    replace i9 : A.1 3 + 200 ≤ 200 := i9
    have g0 : A.1 3 = 0 := by omega
    rcases (show on = 0 ∨ on = 1 by omega) with rfl | rfl
    · refine fm_iload_n hc d_Mo_runOn_7 rfl rfl ?_
      refine fm_if_eq (tgt := 45) hc d_Mo_runOn_8 rfl (fun _ => ?_) (fun gQ => absurd (show nI 0 = 0 by decide) gQ)
      exact fm_vret hc hr d_Mo_runOn_45 (Nat.le_refl _) (Nat.le_refl _) ⟨rfl, rfl, by rw [← i14 rfl]; exact ⟨i7, Nat.le_trans (Nat.le_of_eq i6) w5, i8, i10, i11⟩⟩
    · refine fm_iload_n hc d_Mo_runOn_7 rfl rfl ?_
      refine fm_if_eq (tgt := 45) hc d_Mo_runOn_8 rfl (fun gQ => absurd gQ (show ¬ nI 1 = 0 by decide)) (fun _ => ?_)
      refine fm_aload_n hc d_Mo_runOn_11 rfl rfl ?_
      refine fm_getR (k := 22) (q := 607) hc K_Mo d_Mo_runOn_12 q_907 rfl (by decide) (by omega) (by decide) (by decide) (by decide) rfl (rp_fuel hRi) ?_
      refine fm_iload_n hc d_Mo_runOn_15 rfl rfl ?_
      refine fm_iald (j := gi) (len := 98) hc 0 d_Mo_runOn_16 (by decide) (by omega) (by decide) rfl (by omega) (by decide) ?_
      refine fm_top (congrArg Value.int (show Mi.1 607 gi = nI (A.1 3) from hfu)) ?_
      refine fm_if_le (tgt := 45) hc d_Mo_runOn_17 rfl (fun _ => ?_) (fun gQ => absurd (by rw [g0]; decide) gQ)
      exact fm_vret hc hr d_Mo_runOn_45 (Nat.le_refl _) (Nat.le_refl _) ⟨rfl, rfl, by rw [← i13 rfl, fa_stop g0]; exact ⟨i7, Nat.le_trans (Nat.le_of_eq i6) w5, i8, i10, i11⟩⟩
