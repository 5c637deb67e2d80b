/-! THE WORLD: launch, program, table of the reference -/
theorem arr_fr {g o k : Nat} {v w : Int32} {M : fm_M} (h : ¬ (597 ≤ o ∧ o ≤ 602 ∧ k = g)) : (m_arrive M g v w).1 o k = M.1 o k := by
  have key : ∀ (X : fm_M) (q : Nat) (v : Int32), 597 ≤ q → q ≤ 602 → (fm_put1 X q g v).1 o k = X.1 o k := fun X q v a b => by
    by_cases e : o = q
    · subst e
      exact p1_at (fun w => h ⟨a, b, w⟩)
    · exact p1_other e
  unfold m_arrive
  rw [key _ _ _ (by decide) (by decide), key _ _ _ (by decide) (by decide), key _ _ _ (by decide) (by decide)]
section WRL
variable {l : Launch} {b : Nat} {x : Nat → Nat} {D : va_G} {dA : Nat → ClassId}
variable {up lf : Nat → Nat} {m c s : Nat → am_T} {ms : List mg_T} {C : Nat → Nat} {W : Nat → Nat → Int32} {L : Nat} {sc : Nat → List Nat} {tb : Nat → Nat → Int32} {hm ru pu : Nat → Nat} {M M' : fm_M}
theorem wr_launch {j p0 f : Nat} (h : w_R up lf m c s ms C W L sc tb hm ru pu M) (wf : ∀ i, am_wfs (m i) ∧ am_wfs (c i) ∧ am_wfs (s i)) (hj : j < 4) (hL : L < 4) (hp0 : p0 < 4) (hf : fm_wi (nI f) (nI 1) (nI 200)) (hu : up j = 1) : Met l y_Mo_launch (Cond.code y_Mo_launch b_Mo_launch 4 (some .int) :: fm_T0) ({ frames := 1, cells := 0, slots := 0, locals := 30 }) (fm_Pc fm_lay fm_nf fm_fk fm_cl b x D dA (fm_tys dA) (fm_EX b x) false [.ref 586, .int (nI j), .int (nI p0), .int (nI f)] 630 M) (fm_Qc fm_lay fm_nf fm_fk fm_cl b x D dA (fun r n' M' => r = some (.int (nI L)) ∧ n' = 630 ∧ (w_R up lf (va_up m j (am_lau L (ag_new L p0 f) (m j))) c s ms C W (L + 1) sc tb (va_up hm L j) (va_up ru L p0) (va_up pu L f) M' ∧ lo_E M M' ∧ M'.1 586 0 = nI 0))) 0 0 (fm_A b) := by
  have h0 := wR_t (v := nI 0) h
  refine fm_post (r_launch_go (n := 630) (a := L) (by decide) h.1 hj hp0 hL hf h.2.2.2.2.1 (rfS_u (h.2.1 j hj) hu)) (fun r n' M' q => ⟨q.1, q.2.1, ?_⟩)
  obtain ⟨-, -, q1⟩ := q
  generalize hP : fm_put1 (fm_put1 (fm_put1 (fm_put1 M 586 0 (nI 0)) 590 L (nI j)) 591 L (nI p0)) 592 L (nI f) = P at q1
  have p1 : ∀ q k, ¬ (590 ≤ q ∧ q ≤ 592 ∧ k = L) → P.1 q k = (fm_put1 M 586 0 (nI 0)).1 q k := fun q k a => by
    have key : ∀ (X : fm_M) (z : Nat) (v : Int32), 590 ≤ z → z ≤ 592 → (fm_put1 X z L v).1 q k = X.1 q k := fun X z v b d => by
      by_cases e : q = z
      · subst e
        exact p1_at (fun w => a ⟨b, d, w⟩)
      · exact p1_other e
    rw [← hP, key _ _ _ (by decide) (by decide), key _ _ _ (by decide) (by decide), key _ _ _ (by decide) (by decide)]
  have p2 : P.2 = M.2 := by rw [← hP]; rfl
  have p590 : P.1 590 L = nI j := by rw [← hP, p1_other (by decide), p1_other (by decide), p1_same]
  have p591 : P.1 591 L = nI p0 := by rw [← hP, p1_other (by decide), p1_same]
  have p592 : P.1 592 L = nI f := by rw [← hP, p1_same]
  have mvP : ∀ b1 y, hr_M (fm_put1 M 586 0 (nI 0)) b1 y → hr_M P b1 y := fun b1 y g => hrM_hi (fun q a b => ⟨funext fun k => p1 q k (by omega), by rw [p2]; rfl⟩) g
  generalize hX : m_arrive (m_fresh P (24 * j + L) L) (24 * j + L) (nI 0) (-1) = X at q1
  have fr : fr_R (24 * j) P X := by
    rw [← hX]
    exact ⟨rfl, fun o k a _ d _ _ _ _ => (arr_fr (by omega)).trans (fresh_fr (by omega)), fun _ _ _ _ _ _ => rfl⟩
  have F := fkR_R (by omega) fr
  have hXj : hr_M X (24 * j) (am_lau L (ag_new L p0 f) (m j)) := by
    have hmj := mvP _ _ ((h0.2.1 j hj).2.2.1 hu)
    have hwj := (wf j).1
    rw [← hX]
    revert hmj hwj
    rcases m j with ⟨S, K, O, T, G, H, V, D⟩
    intro hmj hwj
    exact hrM_come (fun c hc hs => (hwj.2 c hc hs).1) (show (ag_new L p0 f).1 7 ≤ 1 from Nat.zero_le 1) hmj (fresh_Gm p591 p592) (fun q k a _ => fresh_fr a) (fun _ _ _ _ => rfl)
  have o1 : ∀ q k, ¬ (q = 586 ∧ k = 4) → M'.1 q k = X.1 q k := fun q k a => by
    rw [q1]
    by_cases e : q = 586
    · subst e
      exact p1_at (fun w => a ⟨rfl, w⟩)
    · exact p1_other e
  have o2 : M'.2 = X.2 := by rw [q1]; rfl
  have mvX : ∀ b1 y, hr_M X b1 y → hr_M M' b1 y := fun b1 y g => hrM_hi (fun q a b => ⟨funext fun k => o1 q k (by omega), by rw [o2]⟩) g
  have mv : ∀ b1 y, (24 * j + 8 ≤ b1 ∨ b1 + 8 ≤ 24 * j) → am_wfs y → hr_M (fm_put1 M 586 0 (nI 0)) b1 y → hr_M M' b1 y := fun b1 y a d g => mvX _ _ (F.2.2.2.1 b1 y a d (mvP _ _ g))
  have e5 : ∀ q k, 587 ≤ q → q ≤ 596 → ¬ (590 ≤ q ∧ q ≤ 592 ∧ k = L) → M'.1 q k = (fm_put1 M 586 0 (nI 0)).1 q k := fun q k a b d => (o1 q k (by omega)).trans ((congrFun (F.2.2.1 q a b) k).trans (p1 q k d))
  have e6 : ∀ q, 590 ≤ q → q ≤ 592 → M'.1 q L = P.1 q L := fun q a b => (o1 q L (by omega)).trans (congrFun (F.2.2.1 q (by omega) (by omega)) L)
  have hK := h0.2.2.2.2
  refine ⟨⟨fun q hq => by rw [o2, F.1, p2]; exact h0.1 q hq, fun i hi => ?_, ?_, hrL_of (funext fun k => e5 593 k (by decide) (by decide) (by omega)) (funext fun k => e5 594 k (by decide) (by decide) (by omega)) h0.2.2.2.1, by rw [q1]; exact p1_same _ _ _ _, fun q hq => hsR_of (e5 588 q (by decide) (by decide) (by omega)) (fun k => e5 587 k (by decide) (by decide) (by omega)) (hK.2.1 q hq), fun i hi k hk => (e5 589 _ (by decide) (by decide) (by omega)).trans (hK.2.2.1 i hi k hk), fun a ha => ?_⟩, loE_tr (loE_t (v := nI 0)) (fun q a => ?_), ?_⟩
  · obtain ⟨s1, s2, s3, s4, s5⟩ := h0.2.1 i hi
    by_cases g : i = j
    · subst g
      rw [fm_upS]
      exact ⟨(e5 595 _ (by decide) (by decide) (by omega)).trans s1, (e5 596 _ (by decide) (by decide) (by omega)).trans s2, fun _ => mvX _ _ hXj, mv _ _ (by omega) (wf i).2.2 s4, fun e => mv _ _ (by omega) (wf i).2.1 (s5 e)⟩
    · rw [fm_upN g]
      exact ⟨(e5 595 _ (by decide) (by decide) (by omega)).trans s1, (e5 596 _ (by decide) (by decide) (by omega)).trans s2, fun e => mv _ _ (by omega) (wf i).1 (s3 e), mv _ _ (by omega) (wf i).2.2 s4, fun e => mv _ _ (by omega) (wf i).2.1 (s5 e)⟩
  · refine hrW_of (fun q k a b => (o1 q k (by omega))) (o1 586 37 (by decide)) (hrW_R fr (hrW_of (fun q k a b => p1 q k (by omega)) (p1 586 37 (by omega)) h0.2.2.1))
  · by_cases e : a = L
    · subst e
      rw [fm_upS, fm_upS, fm_upS, e6 590 (by decide) (by decide), e6 591 (by decide) (by decide), e6 592 (by decide) (by decide)]
      exact ⟨p590, p591, p592⟩
    · rw [fm_upN e, fm_upN e, fm_upN e, e5 590 a (by decide) (by decide) (by omega), e5 591 a (by decide) (by decide) (by omega), e5 592 a (by decide) (by decide) (by omega)]
      exact hK.2.2.2 a (by omega)
  · refine ⟨funext fun k => (o1 q k (by omega)).trans ((congrFun (F.2.2.2.2 q (by omega)).1 k).trans (p1 q k (by omega))), ?_, by rw [o2, F.1, p2]; rfl⟩
    rw [o2, (F.2.2.2.2 q (by omega)).2, p2]
    rfl
  · rw [o1 586 0 (by decide), F.2.1 0 (Or.inr rfl), p1 586 0 (by omega)]
    exact p1_same _ _ _ _
theorem wr_program {j c0 : Nat} {y : Int64} (h : w_R up lf m c s ms C W L sc tb hm ru pu M) (hj : j < 4) (h1 : 1 ≤ c0) (h8 : c0 ≤ 8) (hL : L = 0) (h48 : (sc j).length + c0 ≤ 48) : Met l y_Mo_program (Cond.code y_Mo_program b_Mo_program 6 (some .int) :: fm_T0) ({ frames := 1, cells := 0, slots := 0, locals := 22 }) (fm_Pc fm_lay fm_nf fm_fk fm_cl b x D dA (fm_tys dA) (fm_EX b x) false [.ref 586, .int (nI j), .long y, .int (nI c0)] 630 M) (fm_Qc fm_lay fm_nf fm_fk fm_cl b x D dA (fun r n' M' => r = some (.int (nI ((sc j).length + c0))) ∧ n' = 630 ∧ (w_R up lf m c s ms C W L (va_up sc j (sc j ++ app_l y c0)) tb hm ru pu M' ∧ lo_E M M'))) 0 0 (fm_A b) := by
  have h0 := wR_t (v := nI 0) h
  have hK := h0.2.2.2.2
  refine fm_post (r_program_ok (n := 630) (by decide) h.1 hj h1 h8 (by rw [h.2.2.2.2.1, hL]; decide) (h.2.2.2.2.2.1 j hj).1 h48) (fun r n' M' q => ⟨q.1, q.2.1, ?_⟩)
  obtain ⟨-, -, q1⟩ := q
  obtain ⟨f1, f2⟩ := mrapp_fr (p0 := j) (y := y) c0 (sc j).length (fm_put1 M 586 0 (nI 0))
  have f3 := mrapp_S (y := y) hj c0 (sc j).length (fm_put1 M 586 0 (nI 0)) sc h8 rfl h48 hK.2.1
  rw [← q1] at f1 f2 f3
  clear q1
  refine ⟨⟨fun q hq => by rw [f1]; exact h0.1 q hq, fun i hi => rfS_of (by rw [f2 595 (by decide) (by decide)]) (by rw [f2 596 (by decide) (by decide)]) (fun q a b => ⟨f2 q (by omega) (by omega), by rw [f1]⟩) (h0.2.1 i hi), hrW_of (fun q k a b => by rw [f2 q (by omega) (by omega)]) (by rw [f2 586 (by decide) (by decide)]) h0.2.2.1, hrL_of (f2 593 (by decide) (by decide)) (f2 594 (by decide) (by decide)) h0.2.2.2.1, by rw [f2 586 (by decide) (by decide)]; exact hK.1, f3, fun i hi k hk => by rw [f2 589 (by decide) (by decide)]; exact hK.2.2.1 i hi k hk, fun a ha => by omega⟩, loE_tr loE_t (fun q a => ⟨f2 q (by omega) (by omega), by rw [f1], by rw [f1]⟩)⟩
theorem wr_table {j i : Nat} {u : Int32} (h : w_R up lf m c s ms C W L sc tb hm ru pu M) (hj : j < 4) (hi : i < 8) (hL : L = 0) : Met l y_Mo_table (Cond.code y_Mo_table b_Mo_table 4 (some .boolean) :: fm_T0) ({ frames := 1, cells := 0, slots := 0, locals := 22 }) (fm_Pc fm_lay fm_nf fm_fk fm_cl b x D dA (fm_tys dA) (fm_EX b x) false [.ref 586, .int (nI j), .int (nI i), .int u] 630 M) (fm_Qc fm_lay fm_nf fm_fk fm_cl b x D dA (fun r n' M' => r = some (.int (nI 1)) ∧ n' = 630 ∧ (w_R up lf m c s ms C W L sc (va_up tb j (va_up (tb j) i u)) hm ru pu M' ∧ lo_E M M'))) 0 0 (fm_A b) := by
  have h0 := wR_t (v := nI 0) h
  have hK := h0.2.2.2.2
  refine fm_post (r_table_ok (n := 630) (by decide) h.1 hj hi (by rw [h.2.2.2.2.1, hL]; decide)) (fun r n' M' q => ⟨q.1, q.2.1, ?_⟩)
  obtain ⟨-, -, q1⟩ := q
  have f1 : M'.2 = (fm_put1 M 586 0 (nI 0)).2 := by rw [q1]; rfl
  have f2 : ∀ q, q ≠ 589 → M'.1 q = (fm_put1 M 586 0 (nI 0)).1 q := fun q hq => by rw [q1]; exact funext fun k => p1_other hq
  refine ⟨⟨fun q hq => by rw [f1]; exact h0.1 q hq, fun i hi => rfS_of (by rw [f2 595 (by decide)]) (by rw [f2 596 (by decide)]) (fun q a b => ⟨f2 q (by omega), by rw [f1]⟩) (h0.2.1 i hi), hrW_of (fun q k a b => by rw [f2 q (by omega)]) (by rw [f2 586 (by decide)]) h0.2.2.1, hrL_of (f2 593 (by decide)) (f2 594 (by decide)) h0.2.2.2.1, by rw [f2 586 (by decide)]; exact hK.1, fun q hq => hsR_of (by rw [f2 588 (by decide)]) (fun k => by rw [f2 587 (by decide)]) (hK.2.1 q hq), fun g hg k hk => ?_, fun a ha => by omega⟩, loE_tr loE_t (fun q a => ⟨f2 q (by omega), by rw [f1], by rw [f1]⟩)⟩
  rw [q1]
  by_cases e : g = j
  · subst e
    rw [fm_upS]
    by_cases e2 : k = i
    · subst e2
      rw [p1_same, fm_upS]
    · rw [p1_at (by omega), fm_upN e2]
      exact hK.2.2.1 g hg k hk
  · rw [fm_upN e, p1_at (by omega)]
    exact hK.2.2.1 g hg k hk
end WRL
