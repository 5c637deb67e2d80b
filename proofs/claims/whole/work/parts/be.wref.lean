/-! THE WORLD: the reference's calls -/
theorem rng_out {f : Nat → Int32} {lo i k : Nat} {v : Int32} (h : k < lo ∨ lo + i ≤ k) : m_rng f lo i v k = f k := by
  unfold m_rng
  rw [if_neg (by omega)]
theorem fgt_R {b0 : Nat} {M : fm_M} : fr_R b0 M (m_fgt M b0 8) := by
  refine ⟨rfl, fun o j a _ _ _ _ _ _ => ?_, fun _ _ _ _ _ _ => rfl⟩
  show (if o = 597 then m_rng (M.1 597) b0 8 (nI 0) else if o = 599 then m_rng (M.1 599) b0 8 (-1) else if o = 600 then m_rng (M.1 600) b0 8 (-1) else if o = 601 then m_rng (M.1 601) b0 8 (-1) else if o = 602 then m_rng (M.1 602) b0 8 (nI 0) else M.1 o) j = M.1 o j
  by_cases e1 : o = 597
  · subst e1; rw [if_pos rfl]; exact rng_out (by omega)
  · rw [if_neg e1]
    by_cases e2 : o = 599
    · subst e2; rw [if_pos rfl]; exact rng_out (by omega)
    · rw [if_neg e2]
      by_cases e3 : o = 600
      · subst e3; rw [if_pos rfl]; exact rng_out (by omega)
      · rw [if_neg e3]
        by_cases e4 : o = 601
        · subst e4; rw [if_pos rfl]; exact rng_out (by omega)
        · rw [if_neg e4]
          by_cases e5 : o = 602
          · subst e5; rw [if_pos rfl]; exact rng_out (by omega)
          · rw [if_neg e5]
theorem fresh_Gm {gi a p0 f : Nat} {M : fm_M} (h1 : M.1 591 a = nI p0) (h2 : M.1 592 a = nI f) : hr_G (m_fresh M gi a) gi F_m (ag_new a p0 f) (fun k => k) := by
  refine ⟨fun k k1 k8 _ => ?_, ?_, fun q hq => absurd hq (Nat.not_lt_zero q), fun q r hq => absurd hq (Nat.not_lt_zero q), fun k v hv => by simp [ag_new] at hv, fun k q hq => by simp [ag_new] at hq⟩
  · unfold m_fresh
    rcases (show k = 1 ∨ k = 2 ∨ k = 3 ∨ k = 4 ∨ k = 5 ∨ k = 6 ∨ k = 7 by omega) with rfl | rfl | rfl | rfl | rfl | rfl | rfl
    · simp [fm_put1, va_up, ag_new, h1]
    · simp [fm_put1, va_up, ag_new]
    · simp [fm_put1, va_up, ag_new, h2]
    · simp [fm_put1, va_up, ag_new]
    · simp [fm_put1, va_up, ag_new]
    · simp [fm_put1, va_up, ag_new]
    · simp [fm_put1, va_up, ag_new]
      rfl
  · simp [m_fresh, fm_put1, va_up, ag_new]
theorem fresh_fr {gi a : Nat} {M : fm_M} {o j : Nat} (h : ¬ (605 ≤ o ∧ o ≤ 614 ∧ j = gi)) : (m_fresh M gi a).1 o j = M.1 o j := by
  have key : ∀ (X : fm_M) (q : Nat) (v : Int32), 605 ≤ q → q ≤ 614 → (fm_put1 X q gi v).1 o j = X.1 o j := fun X q v a b => by
    by_cases e : o = q
    · subst e
      exact p1_at (fun w => h ⟨a, b, w⟩)
    · exact p1_other e
  unfold m_fresh
  rw [key _ _ _ (by decide) (by decide), key _ _ _ (by decide) (by decide), key _ _ _ (by decide) (by decide), key _ _ _ (by decide) (by decide), key _ _ _ (by decide) (by decide), key _ _ _ (by decide) (by decide), key _ _ _ (by decide) (by decide), key _ _ _ (by decide) (by decide), key _ _ _ (by decide) (by decide)]
section WRC
variable {l : Launch} {b : Nat} {x : Nat → Nat} {D : va_G} {dA : Nat → ClassId}
variable {up lf : Nat → Nat} {m c s : Nat → am_T} {ms : List mg_T} {C : Nat → Nat} {W : Nat → Nat → Int32} {L : Nat} {sc : Nat → List Nat} {tb : Nat → Nat → Int32} {hm ru pu : Nat → Nat} {M M' : fm_M}
theorem rfS_u {j u lq : Nat} {x y z : am_T} (h : rf_S j u lq x y z M) (hu : u = 1) : ¬ M.1 595 j = 0 := by
  rw [h.1, hu]
  decide
/-- the reference: the block of host j's memory has changed -/
theorem rfS_k {j u lq : Nat} {x y z x' : am_T} (h : rf_S j u lq x y z M) (wy : am_wfs y) (wz : am_wfs z) (f : fk_R (24 * j) M M') (hx : hr_M M' (24 * j) x') : rf_S j u lq x' y z M' :=
  ⟨by rw [f.2.2.1 595 (by decide) (by decide)]; exact h.1, by rw [f.2.2.1 596 (by decide) (by decide)]; exact h.2.1, fun _ => hx, f.2.2.2.1 _ _ (by omega) wz h.2.2.2.1, fun g => f.2.2.2.1 _ _ (by omega) wy (h.2.2.2.2 g)⟩
theorem wR_mem {j : Nat} {x' : am_T} {mu : List mg_T} (h : w_R up lf m c s ms C W L sc tb hm ru pu M) (wf : ∀ i, am_wfs (m i) ∧ am_wfs (c i) ∧ am_wfs (s i)) (hj : j < 4) (f : fk_R (24 * j) M M') (hW : hr_W M' mu) (hx : hr_M M' (24 * j) x') : w_R up lf (va_up m j x') c s mu C W L sc tb hm ru pu M' := by
  have t := wR_host (v := 0) h wf (by decide) rfl f hW (rfS_k (h.2.1 j hj) (wf j).2.1 (wf j).2.2 f hx)
  rw [va_same (f := c) rfl, va_same (f := s) rfl] at t
  exact t
theorem wr_step {j k : Nat} (h : w_R up lf m c s ms C W L sc tb hm ru pu M) (wf : ∀ i, am_wfs (m i) ∧ am_wfs (c i) ∧ am_wfs (s i)) (hj : j < 4) (hu : up j = 1) (hW : am_W (m j)) (hc1 : 1 ≤ k) (hc40 : k ≤ 40) : Met l y_Mo_step (Cond.code y_Mo_step b_Mo_step 8 (some .int) :: fm_T0) ({ frames := 8, cells := 0, slots := 0, locals := 250 }) (fm_Pc fm_lay fm_nf fm_fk fm_cl b x D dA (fm_tys dA) (fm_EX b x) false [.ref 586, .int (nI j), .int (nI k)] 630 M) (fm_Qc fm_lay fm_nf fm_fk fm_cl b x D dA (fun r n' M' => r = some (.int (nI (am_done sc (tb j) j k (m j)))) ∧ n' = 630 ∧ (w_R up lf (va_up m j (am_rounds sc (tb j) j k (m j))) c s ms C W L sc tb hm ru pu M' ∧ lo_E M M' ∧ M'.1 586 0 = nI 0))) 0 0 (fm_A b) := by
  have h0 := wR_t (v := nI 0) h
  refine fm_post (r_step_go (n := 630) (by decide) h.1 hj (rfS_u (h.2.1 j hj) hu) hc1 hc40 h.2.2.2.2.2.1 (fun k hk => h.2.2.2.2.2.2.1 j hj k hk) ((h.2.1 j hj).2.2.1 hu) hW) (fun r n' M' q => ⟨q.1, q.2.1, ?_⟩)
  obtain ⟨-, -, q1, q2, q3⟩ := q
  have f := fkR_R (by omega) q3
  exact ⟨wR_mem h0 wf hj f (hrW_R q3 h0.2.2.1) q1, loE_tr loE_t (loE_k f), (f.2.1 0 (Or.inr rfl)).trans (p1_same _ _ _ _)⟩
theorem wr_tick {j : Nat} (h : w_R up lf m c s ms C W L sc tb hm ru pu M) (wf : ∀ i, am_wfs (m i) ∧ am_wfs (c i) ∧ am_wfs (s i)) (hj : j < 4) (hu : up j = 1) (hW : am_W (m j)) : Met l y_Mo_tick (Cond.code y_Mo_tick b_Mo_tick 4 (some .int) :: fm_T0) ({ frames := 5, cells := 0, slots := 0, locals := 200 }) (fm_Pc fm_lay fm_nf fm_fk fm_cl b x D dA (fm_tys dA) (fm_EX b x) false [.ref 586, .int (nI j)] 630 M) (fm_Qc fm_lay fm_nf fm_fk fm_cl b x D dA (fun r n' M' => r = some (.int (nI (ar_all j (am_pass (m j)) (s j) ms 8).length)) ∧ n' = 630 ∧ (w_R up lf (va_up m j (am_pass (m j))) c s (ar_all j (am_pass (m j)) (s j) ms 8) C W L sc tb hm ru pu M' ∧ lo_E M M' ∧ M'.1 586 0 = nI 0))) 0 0 (fm_A b) := by
  have h0 := wR_t (v := nI 0) h
  refine fm_post (r_tick_go (n := 630) (by decide) h.1 hj (rfS_u (h.2.1 j hj) hu) ((h.2.1 j hj).2.2.1 hu) (h.2.1 j hj).2.2.2.1 h.2.2.1 hW (wf j).2.2) (fun r n' M' q => ⟨q.1, q.2.1, ?_⟩)
  obtain ⟨-, -, q1, q2, f⟩ := q
  exact ⟨wR_mem h0 wf hj f q2 q1, loE_tr loE_t (loE_k f), (f.2.1 0 (Or.inr rfl)).trans (p1_same _ _ _ _)⟩
/-- another's block and cell -/
theorem rfS_q {i j b0 q0 u lq : Nat} {x y z : am_T} (h : rf_S i u lq x y z M) (hi : i ≠ j) (hb : 24 * j ≤ b0 ∧ b0 + 8 ≤ 24 * j + 24) (wx : am_wfs x) (wy : am_wfs y) (wz : am_wfs z) (f : fq_R b0 q0 j M M') : rf_S i u lq x y z M' :=
  ⟨(f.2.2.1 595 i (by decide) (by decide) (by omega)).trans h.1, (f.2.2.1 596 i (by decide) (by decide) (by omega)).trans h.2.1, fun g => f.2.2.2.1 _ _ (by omega) wx (h.2.2.1 g), f.2.2.2.1 _ _ (by omega) wz h.2.2.2.1, fun g => f.2.2.2.1 _ _ (by omega) wy (h.2.2.2.2 g)⟩
theorem wr_checkpoint {j : Nat} (h : w_R up lf m c s ms C W L sc tb hm ru pu M) (wf : ∀ i, am_wfs (m i) ∧ am_wfs (c i) ∧ am_wfs (s i)) (hj : j < 4) (hu : up j = 1) (hl : lf j = 0) : Met l y_Mo_checkpoint (Cond.code y_Mo_checkpoint b_Mo_checkpoint 3 (some .int) :: fm_T0) ({ frames := 5, cells := 0, slots := 0, locals := 200 }) (fm_Pc fm_lay fm_nf fm_fk fm_cl b x D dA (fm_tys dA) (fm_EX b x) false [.ref 586, .int (nI j)] 630 M) (fm_Qc fm_lay fm_nf fm_fk fm_cl b x D dA (fun r n' M' => r = some (.int (nI (am_fil (m j).1 8 + 1))) ∧ n' = 630 ∧ (w_R up (va_up lf j (am_fil (m j).1 8 + 1)) m (va_up c j (m j)) s ms C W L sc tb hm ru pu M' ∧ lo_E M M' ∧ M'.1 586 0 = nI 0))) 0 0 (fm_A b) := by
  have h0 := wR_t (v := nI 0) h
  refine fm_post (r_checkpoint_go (n := 630) (by decide) h.1 hj (rfS_u (h.2.1 j hj) hu) (by rw [(h.2.1 j hj).2.1, hl]) ((h.2.1 j hj).2.2.1 hu) (wf j).1) (fun r n' M' q => ⟨q.1, q.2.1, ?_⟩)
  obtain ⟨-, -, q1, q2, q3, f⟩ := q
  have hj0 := h0.2.1 j hj
  refine ⟨⟨fqR_RP f h0.1, fun i hi => ?_, f.2.2.2.2.1 ms h0.2.2.1, hrL_of (funext fun k => f.2.2.1 593 k (by decide) (by decide) (by omega)) (funext fun k => f.2.2.1 594 k (by decide) (by decide) (by omega)) h0.2.2.2.1, rfK_of (f.2.1 4 (Or.inl rfl)) (fun q a b => funext fun k => f.2.2.1 q k a (by omega) (by omega)) h0.2.2.2.2⟩, loE_tr loE_t (fun q a => ⟨(f.2.2.2.2.2 q (by omega)).1, (f.2.2.2.2.2 q (by omega)).2, by rw [f.1]⟩), (f.2.1 0 (Or.inr rfl)).trans (p1_same _ _ _ _)⟩
  by_cases g : i = j
  · subst g
    rw [fm_upS, fm_upS]
    exact ⟨(f.2.2.1 595 i (by decide) (by decide) (by omega)).trans hj0.1, q3, fun _ => q1, f.2.2.2.1 _ _ (by omega) (wf i).2.2 hj0.2.2.2.1, fun _ => q2⟩
  · rw [fm_upN g, fm_upN g]
    exact rfS_q (h0.2.1 i hi) g (by omega) (wf i).1 (wf i).2.1 (wf i).2.2 f
theorem wr_start {j : Nat} (h : w_R up lf m c s ms C W L sc tb hm ru pu M) (wf : ∀ i, am_wfs (m i) ∧ am_wfs (c i) ∧ am_wfs (s i)) (hj : j < 4) (hu : up j = 0) (hl : lf j = 0) (hms : m j = s j) : Met l y_Mo_start (Cond.code y_Mo_start b_Mo_start 2 (some .boolean) :: fm_T0) ({ frames := 5, cells := 0, slots := 0, locals := 200 }) (fm_Pc fm_lay fm_nf fm_fk fm_cl b x D dA (fm_tys dA) (fm_EX b x) false [.ref 586, .int (nI j)] 630 M) (fm_Qc fm_lay fm_nf fm_fk fm_cl b x D dA (fun r n' M' => r = some (.int (nI 1)) ∧ n' = 630 ∧ (w_R (va_up up j 1) lf m c s ms C W L sc tb hm ru pu M' ∧ lo_E M M' ∧ M'.1 586 0 = nI 0))) 0 0 (fm_A b) := by
  have h0 := wR_t (v := nI 0) h
  refine fm_post (r_start_go (n := 630) (by decide) h.1 hj (by rw [(h.2.1 j hj).1, hu]) (h.2.1 j hj).2.2.2.1 (wf j).2.2) (fun r n' M' q => ⟨q.1, q.2.1, ?_⟩)
  obtain ⟨-, -, q1, q2, q3, f⟩ := q
  have hj0 := h0.2.1 j hj
  refine ⟨⟨fqR_RP f h0.1, fun i hi => ?_, f.2.2.2.2.1 ms h0.2.2.1, hrL_of (funext fun k => f.2.2.1 593 k (by decide) (by decide) (by omega)) (funext fun k => f.2.2.1 594 k (by decide) (by decide) (by omega)) h0.2.2.2.1, rfK_of (f.2.1 4 (Or.inl rfl)) (fun q a b => funext fun k => f.2.2.1 q k a (by omega) (by omega)) h0.2.2.2.2⟩, loE_tr loE_t (fun q a => ⟨(f.2.2.2.2.2 q (by omega)).1, (f.2.2.2.2.2 q (by omega)).2, by rw [f.1]⟩), (f.2.1 0 (Or.inr rfl)).trans (p1_same _ _ _ _)⟩
  by_cases g : i = j
  · subst g
    rw [fm_upS]
    exact ⟨q3, (f.2.2.1 596 i (by decide) (by decide) (by omega)).trans hj0.2.1, fun _ => by rw [hms]; exact q1, q2, fun g => absurd hl g⟩
  · rw [fm_upN g]
    exact rfS_q (h0.2.1 i hi) g (by omega) (wf i).1 (wf i).2.1 (wf i).2.2 f
theorem wr_crash {j : Nat} (h : w_R up lf m c s ms C W L sc tb hm ru pu M) (wf : ∀ i, am_wfs (m i) ∧ am_wfs (c i) ∧ am_wfs (s i)) (hj : j < 4) (hu : up j = 1) : Met l y_Mo_crash (Cond.code y_Mo_crash b_Mo_crash 2 (some .boolean) :: fm_T0) ({ frames := 1, cells := 0, slots := 0, locals := 22 }) (fm_Pc fm_lay fm_nf fm_fk fm_cl b x D dA (fm_tys dA) (fm_EX b x) false [.ref 586, .int (nI j)] 630 M) (fm_Qc fm_lay fm_nf fm_fk fm_cl b x D dA (fun r n' M' => r = some (.int (nI 1)) ∧ n' = 630 ∧ (w_R (va_up up j 0) (va_up lf j 0) (va_up m j (s j)) (va_up c j (s j)) s ms C W L sc tb hm ru pu M' ∧ lo_E M M' ∧ M'.1 586 0 = nI 0))) 0 0 (fm_A b) := by
  have h0 := wR_t (v := nI 0) h
  refine fm_post (r_crash_go (n := 630) (by decide) h.1 hj (rfS_u (h.2.1 j hj) hu)) (fun r n' M' q => ⟨q.1, q.2.1, ?_⟩)
  obtain ⟨-, -, q1⟩ := q
  rw [show 8 * (3 * j) = 24 * j by omega] at q1
  have fr : fr_R (24 * j) (fm_put1 (fm_put1 (fm_put1 M 586 0 (nI 0)) 595 j (vp_nar .boolean (nI 0))) 596 j (nI 0)) M' := by rw [q1]; exact fgt_R
  have f := fkR_R (by omega) fr
  have o1 : ∀ q k, q ≠ 595 → q ≠ 596 → (fm_put1 (fm_put1 (fm_put1 M 586 0 (nI 0)) 595 j (vp_nar .boolean (nI 0))) 596 j (nI 0)).1 q k = (fm_put1 M 586 0 (nI 0)).1 q k := fun q k a b => (p1_other b).trans (p1_other a)
  have hj0 := h0.2.1 j hj
  have mv : ∀ b1 y, (24 * j + 8 ≤ b1 ∨ b1 + 8 ≤ 24 * j) → am_wfs y → hr_M (fm_put1 M 586 0 (nI 0)) b1 y → hr_M M' b1 y := fun b1 y a d g => f.2.2.2.1 b1 y a d (hrM_o (by decide) (hrM_o (by decide) g))
  refine ⟨⟨fkR_RP f h0.1, fun i hi => ?_, hrW_R fr (hrW_of (fun q k a b => o1 q k (by omega) (by omega)) (o1 586 37 (by decide) (by decide)) h0.2.2.1), hrL_of ((f.2.2.1 593 (by decide) (by decide)).trans (funext fun k => o1 593 k (by decide) (by decide))) ((f.2.2.1 594 (by decide) (by decide)).trans (funext fun k => o1 594 k (by decide) (by decide))) h0.2.2.2.1, rfK_of ((f.2.1 4 (Or.inl rfl)).trans (o1 586 4 (by decide) (by decide))) (fun q a b => (f.2.2.1 q a (by omega)).trans (funext fun k => o1 q k (by omega) (by omega))) h0.2.2.2.2⟩, loE_tr loE_t (loE_tr (fun q a => ⟨funext fun k => o1 q k (by omega) (by omega), rfl, rfl⟩) (loE_k f)), (f.2.1 0 (Or.inr rfl)).trans ((o1 586 0 (by decide) (by decide)).trans (p1_same _ _ _ _))⟩
  by_cases g : i = j
  · subst g
    rw [fm_upS, fm_upS, fm_upS, fm_upS]
    refine ⟨?_, ?_, fun g => absurd g (by decide), mv _ _ (by omega) (wf i).2.2 hj0.2.2.2.1, fun g => absurd rfl g⟩
    · rw [f.2.2.1 595 (by decide) (by decide), p1_other (by decide), p1_same]
      rfl
    · rw [f.2.2.1 596 (by decide) (by decide), p1_same]
  · rw [fm_upN g, fm_upN g, fm_upN g, fm_upN g]
    obtain ⟨s1, s2, s3, s4, s5⟩ := h0.2.1 i hi
    refine ⟨?_, ?_, fun g => mv _ _ (by omega) (wf i).1 (s3 g), mv _ _ (by omega) (wf i).2.2 s4, fun g => mv _ _ (by omega) (wf i).2.1 (s5 g)⟩
    · rw [f.2.2.1 595 (by decide) (by decide), p1_other (by decide), p1_at g]
      exact s1
    · rw [f.2.2.1 596 (by decide) (by decide), p1_at g, p1_other (by decide)]
      exact s2
theorem wr_less {j k : Nat} (h : w_R up lf m c s ms C W L sc tb hm ru pu M) (hj : j < 4) (hu : up j = 1) (hl9 : lf j ≤ 9) (hk1 : 1 ≤ k) (hkl : k < lf j) : Met l y_Mo_write (Cond.code y_Mo_write b_Mo_write 3 (some .int) :: fm_T0) ({ frames := 5, cells := 0, slots := 0, locals := 200 }) (fm_Pc fm_lay fm_nf fm_fk fm_cl b x D dA (fm_tys dA) (fm_EX b x) false [.ref 586, .int (nI j), .int (nI k)] 630 M) (fm_Qc fm_lay fm_nf fm_fk fm_cl b x D dA (fun r n' M' => r = some (.int (nI (lf j - k))) ∧ n' = 630 ∧ (w_R up (va_up lf j (lf j - k)) m c s ms C W L sc tb hm ru pu M' ∧ lo_E M M' ∧ M'.1 586 0 = nI 0))) 0 0 (fm_A b) := by
  have h0 := wR_t (v := nI 0) h
  refine fm_post (r_write_less (n := 630) (by decide) h.1 hj (rfS_u (h.2.1 j hj) hu) (h.2.1 j hj).2.1 (by omega) hl9 hk1 hkl) (fun r n' M' q => ⟨q.1, q.2.1, ?_⟩)
  obtain ⟨-, -, q1⟩ := q
  have o1 : ∀ q, q ≠ 596 → M'.1 q = (fm_put1 M 586 0 (nI 0)).1 q := fun q a => by rw [q1]; exact funext fun k => p1_other a
  have o2 : M'.2 = (fm_put1 M 586 0 (nI 0)).2 := by rw [q1]; rfl
  refine ⟨⟨fun q hq => by rw [o2]; exact h0.1 q hq, fun i hi => ?_, hrW_of (fun q k a b => by rw [o1 q (by omega)]) (by rw [o1 586 (by decide)]) h0.2.2.1, hrL_of (o1 593 (by decide)) (o1 594 (by decide)) h0.2.2.2.1, rfK_of (by rw [o1 586 (by decide)]) (fun q a b => o1 q (by omega)) h0.2.2.2.2⟩, loE_tr loE_t (fun q a => ⟨o1 q (by omega), by rw [o2], by rw [o2]⟩), by rw [o1 586 (by decide)]; exact p1_same _ _ _ _⟩
  have mv : ∀ b1 y, hr_M (fm_put1 M 586 0 (nI 0)) b1 y → hr_M M' b1 y := fun b1 y g => hrM_hi (fun q a b => ⟨o1 q (by omega), by rw [o2]⟩) g
  obtain ⟨s1, s2, s3, s4, s5⟩ := h0.2.1 i hi
  by_cases g : i = j
  · subst g
    rw [fm_upS]
    exact ⟨by rw [o1 595 (by decide)]; exact s1, by rw [q1]; exact p1_same _ _ _ _, fun g => mv _ _ (s3 g), mv _ _ s4, fun _ => mv _ _ (s5 (by omega))⟩
  · rw [fm_upN g]
    exact ⟨by rw [o1 595 (by decide)]; exact s1, by rw [q1, p1_at g]; exact s2, fun g => mv _ _ (s3 g), mv _ _ s4, fun g => mv _ _ (s5 g)⟩
theorem wr_seal {j : Nat} {v : Int32} (h : w_R up lf m c s ms C W L sc tb hm ru pu M) (wf : ∀ i, am_wfs (m i) ∧ am_wfs (c i) ∧ am_wfs (s i)) (hj : j < 4) (hu : up j = 1) (hl1 : 1 ≤ lf j) (hl9 : lf j ≤ 9) (hD : ∀ a, a < 8 → (c j).2.2.2.2.2.2.2 a ≤ 16) (hO : ∀ a, a < 8 → (c j).2.2.1 a = -1 ∨ ¬ (c j).2.2.1 a < 0) (hv1 : ¬ v ≤ 0) (hvl : ¬ v < nI (lf j)) : Met l y_Mo_write (Cond.code y_Mo_write b_Mo_write 3 (some .int) :: fm_T0) ({ frames := 5, cells := 0, slots := 0, locals := 200 }) (fm_Pc fm_lay fm_nf fm_fk fm_cl b x D dA (fm_tys dA) (fm_EX b x) false [.ref 586, .int (nI j), .int v] 630 M) (fm_Qc fm_lay fm_nf fm_fk fm_cl b x D dA (fun r n' M' => r = some (.int (nI 0)) ∧ n' = 630 ∧ (w_R up (va_up lf j 0) (va_up m j (am_ow (m j) (sl_O (c j) (m j) 8))) c (va_up s j (c j)) (sl_W j (c j) ms 8) (sr_C C (c j).2.2.2.2.2.2.2) (sr_W C W (c j).2.2.2.2.2.2.1) L sc tb hm ru pu M' ∧ lo_E M M' ∧ M'.1 586 0 = nI 0))) 0 0 (fm_A b) := by
  have h0 := wR_t (v := nI 0) h
  have hj1 := h.2.1 j hj
  refine fm_post (r_write_seal (n := 630) (by decide) h.1 hj (hj1.2.2.1 hu) (hj1.2.2.2.2 (by omega)) (wf j).1 (wf j).2.1 h.2.2.1 h.2.2.2.1 hD hO (rfS_u hj1 hu) hj1.2.1 hl1 hl9 hv1 hvl) (fun r n' M' q => ⟨q.1, q.2.1, ?_⟩)
  obtain ⟨-, -, q1, q2, q3, q4, f, q5⟩ := q
  refine ⟨⟨fun q hq => by rw [f.1]; exact h0.1 q hq, fun i hi => ?_, q3, q4, rfK_of (f.2.1 4 (Or.inl rfl)) (fun q a b => f.2.2.1 q a (by omega) (by omega) (by omega)) h0.2.2.2.2⟩, loE_tr loE_t (fun q a => ⟨(f.2.2.2.2.2 q (by omega)).1, (f.2.2.2.2.2 q (by omega)).2, by rw [f.1]⟩), (f.2.1 0 (Or.inr rfl)).trans (p1_same _ _ _ _)⟩
  obtain ⟨s1, s2, s3, s4, s5⟩ := h0.2.1 i hi
  by_cases g : i = j
  · subst g
    rw [fm_upS, fm_upS, fm_upS]
    exact ⟨by rw [f.2.2.1 595 (by decide) (by decide) (by decide) (by decide)]; exact s1, q5, fun _ => q1, q2, fun g => absurd rfl g⟩
  · rw [fm_upN g, fm_upN g, fm_upN g]
    exact ⟨by rw [f.2.2.1 595 (by decide) (by decide) (by decide) (by decide)]; exact s1, (f.2.2.2.1 i g).trans s2, fun e => f.2.2.2.2.1 _ _ (by omega) (wf i).1 (s3 e), f.2.2.2.2.1 _ _ (by omega) (wf i).2.2 s4, fun e => f.2.2.2.2.1 _ _ (by omega) (wf i).2.1 (s5 e)⟩
theorem wR_msg {mu : List mg_T} (h : w_R up lf m c s ms C W L sc tb hm ru pu M) (wf : ∀ i, am_wfs (m i) ∧ am_wfs (c i) ∧ am_wfs (s i)) (f : fk_R 96 M M') (hW : hr_W M' mu) : w_R up lf m c s mu C W L sc tb hm ru pu M' := by
  obtain ⟨h1, h2, h3, h4, h5⟩ := h
  refine ⟨fkR_RP f h1, fun i hi => ?_, hW, hrL_of (f.2.2.1 593 (by decide) (by decide)) (f.2.2.1 594 (by decide) (by decide)) h4, rfK_of (f.2.1 4 (Or.inl rfl)) (fun q a b => f.2.2.1 q a (by omega)) h5⟩
  obtain ⟨s1, s2, s3, s4, s5⟩ := h2 i hi
  exact ⟨by rw [f.2.2.1 595 (by decide) (by decide)]; exact s1, by rw [f.2.2.1 596 (by decide) (by decide)]; exact s2, fun q => f.2.2.2.1 _ _ (by omega) (wf i).1 (s3 q), f.2.2.2.1 _ _ (by omega) (wf i).2.2 s4, fun q => f.2.2.2.1 _ _ (by omega) (wf i).2.1 (s5 q)⟩
theorem wr_double {k : Nat} {m0 : mg_T} (h : w_R up lf m c s ms C W L sc tb hm ru pu M) (wf : ∀ i, am_wfs (m i) ∧ am_wfs (c i) ∧ am_wfs (s i)) (hk : ms[k]? = some m0) (hok : ∀ q ∈ ms, q.1 ≤ 1) (hl : ms.length < 20) : Met l y_Mo_net (Cond.code y_Mo_net b_Mo_net 4 (some .int) :: fm_T0) ({ frames := 5, cells := 0, slots := 0, locals := 200 }) (fm_Pc fm_lay fm_nf fm_fk fm_cl b x D dA (fm_tys dA) (fm_EX b x) false [.ref 586, .int (nI k), .int (nI 2)] 630 M) (fm_Qc fm_lay fm_nf fm_fk fm_cl b x D dA (fun r n' M' => r = some (.int (nI (ms.length + 1))) ∧ n' = 630 ∧ (w_R up lf m c s (ms ++ [m0]) C W L sc tb hm ru pu M' ∧ lo_E M M' ∧ M'.1 586 0 = nI 0))) 0 0 (fm_A b) := by
  have h0 := wR_t (v := nI 0) h
  refine fm_post (r_net_double (b9 := 96) (n := 630) (by decide) h.1 h.2.2.1 hk hok hl) (fun r n' M' q => ⟨q.1, q.2.1, ?_⟩)
  obtain ⟨-, -, q1, f⟩ := q
  exact ⟨wR_msg h0 wf f q1, loE_tr loE_t (loE_k f), (f.2.1 0 (Or.inr rfl)).trans (p1_same _ _ _ _)⟩
theorem wr_lose {k : Nat} {m0 : mg_T} (h : w_R up lf m c s ms C W L sc tb hm ru pu M) (wf : ∀ i, am_wfs (m i) ∧ am_wfs (c i) ∧ am_wfs (s i)) (hk : ms[k]? = some m0) (hok : ∀ q ∈ ms, q.1 ≤ 1) : Met l y_Mo_net (Cond.code y_Mo_net b_Mo_net 4 (some .int) :: fm_T0) ({ frames := 5, cells := 0, slots := 0, locals := 200 }) (fm_Pc fm_lay fm_nf fm_fk fm_cl b x D dA (fm_tys dA) (fm_EX b x) false [.ref 586, .int (nI k), .int (nI 1)] 630 M) (fm_Qc fm_lay fm_nf fm_fk fm_cl b x D dA (fun r n' M' => r = some (.int (nI (ms.length - 1))) ∧ n' = 630 ∧ (w_R up lf m c s (ms.eraseIdx k) C W L sc tb hm ru pu M' ∧ lo_E M M' ∧ M'.1 586 0 = nI 0))) 0 0 (fm_A b) := by
  have h0 := wR_t (v := nI 0) h
  refine fm_post (r_net_lose (b9 := 96) (n := 630) (by decide) h.1 h.2.2.1 hk hok) (fun r n' M' q => ⟨q.1, q.2.1, ?_⟩)
  obtain ⟨-, -, q1, f⟩ := q
  exact ⟨wR_msg h0 wf f q1, loE_tr loE_t (loE_k f), (f.2.1 0 (Or.inr rfl)).trans (p1_same _ _ _ _)⟩
theorem wr_down {j k : Nat} {m0 : mg_T} (h : w_R up lf m c s ms C W L sc tb hm ru pu M) (wf : ∀ i, am_wfs (m i) ∧ am_wfs (c i) ∧ am_wfs (s i)) (hk : ms[k]? = some m0) (hok : ∀ q ∈ ms, q.1 ≤ 1) (hj : j < 4) (hto : m0.2.2.2.2.1 = nI j) (ha8 : m0.2.1 < 8) (hu : up j = 0) : Met l y_Mo_net (Cond.code y_Mo_net b_Mo_net 4 (some .int) :: fm_T0) ({ frames := 5, cells := 0, slots := 0, locals := 200 }) (fm_Pc fm_lay fm_nf fm_fk fm_cl b x D dA (fm_tys dA) (fm_EX b x) false [.ref 586, .int (nI k), .int (nI 0)] 630 M) (fm_Qc fm_lay fm_nf fm_fk fm_cl b x D dA (fun r n' M' => r = some (.int (nI (ms.length - 1))) ∧ n' = 630 ∧ (w_R up lf m c s (ms.eraseIdx k) C W L sc tb hm ru pu M' ∧ lo_E M M' ∧ M'.1 586 0 = nI 0))) 0 0 (fm_A b) := by
  have h0 := wR_t (v := nI 0) h
  refine fm_post (r_net_down (b9 := 96) (n := 630) (by decide) h.1 h.2.2.1 hk hok hj hto ha8 (by rw [(h.2.1 j hj).1, hu])) (fun r n' M' q => ⟨q.1, q.2.1, ?_⟩)
  obtain ⟨-, -, q1, f⟩ := q
  exact ⟨wR_msg h0 wf f q1, loE_tr loE_t (loE_k f), (f.2.1 0 (Or.inr rfl)).trans (p1_same _ _ _ _)⟩
theorem wr_deliver {j k : Nat} {m0 : mg_T} {A : ag_T} (h : w_R up lf m c s ms C W L sc tb hm ru pu M) (wf : ∀ i, am_wfs (m i) ∧ am_wfs (c i) ∧ am_wfs (s i)) (hk : ms[k]? = some m0) (hok : ∀ q ∈ ms, q.1 ≤ 1) (hj : j < 4) (hto : m0.2.2.2.2.1 = nI j) (ha8 : m0.2.1 < 8) (him : m0.1 = 0 → m0.2.2.2.2.2 = im_B A ∧ ag_wf m0.2.1 A) (hu : up j = 1) : Met l y_Mo_net (Cond.code y_Mo_net b_Mo_net 4 (some .int) :: fm_T0) ({ frames := 5, cells := 0, slots := 0, locals := 200 }) (fm_Pc fm_lay fm_nf fm_fk fm_cl b x D dA (fm_tys dA) (fm_EX b x) false [.ref 586, .int (nI k), .int (nI 0)] 630 M) (fm_Qc fm_lay fm_nf fm_fk fm_cl b x D dA (fun r n' M' => r = some (.int (nI (dv_W j m0 (m j) (s j) (ms.eraseIdx k)).length)) ∧ n' = 630 ∧ (w_R up lf (va_up m j (dv_M m0 A (m j))) c s (dv_W j m0 (m j) (s j) (ms.eraseIdx k)) C W L sc tb hm ru pu M' ∧ lo_E M M' ∧ M'.1 586 0 = nI 0))) 0 0 (fm_A b) := by
  have h0 := wR_t (v := nI 0) h
  refine fm_post (r_net_up (n := 630) (by decide) h.1 h.2.2.1 hk hok hj hto ha8 him ((h.2.1 j hj).2.2.1 hu) (h.2.1 j hj).2.2.2.1 (wf j).1 (wf j).2.2 (rfS_u (h.2.1 j hj) hu)) (fun r n' M' q => ⟨q.1, q.2.1, ?_⟩)
  obtain ⟨-, -, q1, q2, f⟩ := q
  exact ⟨wR_mem h0 wf hj f q1 q2, loE_tr loE_t (loE_k f), (f.2.1 0 (Or.inr rfl)).trans (p1_same _ _ _ _)⟩
end WRC
