/-! THE REFERENCE: one turn of an agent in its memory -/
theorem hrM_kid {b0 k : Nat} {M M' : fm_M} {S : Nat → Nat} {K O T : Nat → Int32} {G : Nat → ag_T} {H : Nat → Int32} {V : Nat → Nat → Int32} {D : Nat → Nat} {A B : ag_T} (hk : k < 4) (okG : ∀ a, a < 8 → S a ≠ 0 → ag_ok (G a)) (hA : ∃ g, hr_G M' (b0 + k) F_m A g) (h7 : A.1 7 ≤ 1) (hB : ∃ g, hr_G M' (b0 + k + 4) F_m B g) (hz : M'.1 611 (b0 + k + 4) = nI 0) (f : fr_W2 (b0 + k) (b0 + k + 4) (m_arrive M (b0 + k + 4) (nI 0) (-1)) M') (h : hr_M M b0 (S, K, O, T, G, H, V, D)) : hr_M M' b0 (va_up S (k + 4) 1, va_up K (k + 4) 0, va_up O (k + 4) (-1), T, va_up (va_up G k A) (k + 4) B, H, V, D) := by
  obtain ⟨h1, h2, h3, h4, h5, h6, h7', h8, h9⟩ := h
  have e := fun q j (h1 : q < 605) (h2 : 586 < q) => f.2.1 q j (by omega) (by omega) (by omega) (by omega)
  have e0 : ∀ q j, q ≠ 597 → q ≠ 599 → q ≠ 600 → (m_arrive M (b0 + k + 4) (nI 0) (-1)).1 q j = M.1 q j := fun q j g1 g2 g3 => (p1_other g3).trans ((p1_other g2).trans (p1_other g1))
  have eg : b0 + (k + 4) = b0 + k + 4 := by omega
  refine ⟨fun a ha => (e _ _ (by decide) (by decide)).trans ?_, fun a ha hs => (e _ _ (by decide) (by decide)).trans ((e0 _ _ (by decide) (by decide) (by decide)).trans (h2 a ha ?_)), fun a ha => (e _ _ (by decide) (by decide)).trans ?_, fun a ha => (e _ _ (by decide) (by decide)).trans ?_, fun a ha => (e _ _ (by decide) (by decide)).trans ((e0 _ _ (by decide) (by decide) (by decide)).trans (h5 a ha)), fun a ha => (e _ _ (by decide) (by decide)).trans ((e0 _ _ (by decide) (by decide) (by decide)).trans (h6 a ha)), fun a i ha hi => (e _ _ (by decide) (by decide)).trans ((e0 _ _ (by decide) (by decide) (by decide)).trans (h7' a i ha hi)), fun a ha => ?_, fun a ha hs => ?_⟩
  · unfold m_arrive
    rw [p1_other (by decide), p1_other (by decide)]
    by_cases g : a = k + 4
    · rw [g, eg, p1_same, fm_upS]
    · rw [p1_at (by omega), fm_upN g]
      exact h1 a ha
  · by_cases g : a = k + 4
    · rw [g, fm_upS] at hs
      cases hs
    · rwa [fm_upN g] at hs
  · unfold m_arrive
    rw [p1_other (by decide)]
    by_cases g : a = k + 4
    · rw [g, eg, p1_same, fm_upS]
      rfl
    · rw [p1_at (by omega), p1_other (by decide), fm_upN g]
      exact h3 a ha
  · unfold m_arrive
    by_cases g : a = k + 4
    · rw [g, eg, p1_same, fm_upS]
    · rw [p1_at (by omega), p1_other (by decide), p1_other (by decide), fm_upN g]
      exact h4 a ha
  · by_cases g : a = k + 4
    · rw [g, eg, hz]
      exact Or.inl rfl
    · by_cases g2 : a = k
      · rw [g2]
        obtain ⟨g, hg⟩ := hA
        have q := hg.1 7 (by decide) (by decide) trivial
        rcases (show A.1 7 = 0 ∨ A.1 7 = 1 by omega) with z | z
        · exact Or.inl (q.trans (congrArg nI z))
        · exact Or.inr (q.trans (congrArg nI z))
      · rw [f.2.1 611 (b0 + a) (by omega) (by decide) (by decide) (by omega), e0 _ _ (by decide) (by decide) (by decide)]
        exact h8 a ha
  · by_cases g : a = k + 4
    · rw [g, fm_upS, eg]
      exact hB
    · rw [fm_upN g] at hs ⊢
      by_cases g2 : a = k
      · rw [g2, fm_upS]
        exact hA
      · rw [fm_upN g2]
        obtain ⟨g3, hg⟩ := h9 a ha hs
        exact ⟨g3, hrG_W2 (okG a ha hs) (by omega) (by omega) (hrG_o1 (by omega) (hrG_o1 (by omega) (hrG_o1 (by omega) hg))) f⟩
theorem hrM_turn {b0 k : Nat} {M M' : fm_M} {S : Nat → Nat} {K O T : Nat → Int32} {G : Nat → ag_T} {H : Nat → Int32} {V : Nat → Nat → Int32} {D : Nat → Nat} {st : Nat × Int32 × ag_T} (hk : k < 8) (okG : ∀ a, a < 8 → S a ≠ 0 → ag_ok (G a)) (hS : S k ≠ 0) (h5 : (G k).1 5 < 16 ∨ st.1 ≠ 1) (h7 : st.2.2.1 7 ≤ 1) (hle : st.1 ≤ 5) (h3 : st.1 = 3 → k < 4) (w : rW_m (b0 + k) M (G k) st M') (h : hr_M M b0 (S, K, O, T, G, H, V, D)) : hr_M (if st.1 = 5 then fm_put1 M' 597 (b0 + k) (nI 4) else if st.1 = 4 then fm_put1 M' 597 (b0 + k) (nI 3) else M') b0 (am_turn k ((G k).1 5) (ag_kidOf (G k) st.2.1.toInt.toNat) st (S, K, O, T, G, H, V, D)) := by
  have h0 : hr_M (fm_put1 M 586 50 (nI 0)) b0 (S, K, O, T, G, H, V, D) := hrM_o (by decide) h
  obtain ⟨ak, av, P⟩ := st
  obtain ⟨w1, w2, w3⟩ := w
  have hle : ak ≤ 5 := hle
  rcases (show ak = 0 ∨ ak = 1 ∨ ak = 2 ∨ ak = 3 ∨ ak = 4 ∨ ak = 5 by omega) with rfl | rfl | rfl | rfl | rfl | rfl
  · exact hrM_W hk (by decide) okG w1 h7 (w2 (fun e => no3 e rfl)) h0
  · have hsd : (G k).1 5 < 16 := h5.resolve_right (fun q => q rfl)
    exact hrM_W (G := G) hk (by decide) okG w1 h7 (w2 (fun e => no3 e rfl)) (hrM_say hk hsd h0)
  · refine hrM_W (G := G) hk (by decide) (fun a ha hs => okG a ha (fun q => ?_)) w1 h7 (w2 (fun e => no3 e rfl)) (hrM_go hS hk h0)
    by_cases g : a = k
    · exact hS (g ▸ q)
    · rw [fm_upN g] at hs
      exact hs q
  · obtain ⟨q1, q2, q3⟩ := w3 rfl
    exact hrM_kid (h3 rfl) okG w1 h7 q2 q3 q1 h0
  · exact hrM_slot (v := 3) (G := va_up G k P) (by decide) hS hk (hrM_W hk (by decide) okG w1 h7 (w2 (fun e => no3 e rfl)) (hrM_o (by decide) h0))
  · exact hrM_slot (v := 4) (G := va_up G k P) (by decide) hS hk (hrM_W hk (by decide) okG w1 h7 (w2 (fun e => no3 e rfl)) h0)
/-- has it ended -/
theorem rW_end {gi : Nat} {M M' : fm_M} {A : ag_T} {st : Nat × Int32 × ag_T} (hle : st.1 ≤ 5) (w : rW_m gi M A st M') : M'.1 586 50 = nI (if st.1 = 4 then 1 else 0) := by
  obtain ⟨ak, av, P⟩ := st
  obtain ⟨-, w2, w3⟩ := w
  have hle : ak ≤ 5 := hle
  have q : ∀ E : fm_M, fr_W gi E M' → M'.1 586 50 = E.1 586 50 := fun E f => f.2.1 586 50 (by omega) (by decide) (by decide) (by decide)
  rcases (show ak = 0 ∨ ak = 1 ∨ ak = 2 ∨ ak = 3 ∨ ak = 4 ∨ ak = 5 by omega) with rfl | rfl | rfl | rfl | rfl | rfl
  · exact (q _ (w2 (fun e => no3 e rfl))).trans (p1_same _ _ _ _)
  · exact (q _ (w2 (fun e => no3 e rfl))).trans ((p1_other (by decide)).trans ((p1_other (by decide)).trans (p1_same _ _ _ _)))
  · exact (q _ (w2 (fun e => no3 e rfl))).trans ((p1_other (by decide)).trans ((p1_other (by decide)).trans ((p1_other (by decide)).trans (p1_same _ _ _ _))))
  · obtain ⟨f, -, -⟩ := w3 rfl
    exact (f.2.1 586 50 (by omega) (by decide) (by decide) (by decide)).trans ((p1_other (by decide)).trans ((p1_other (by decide)).trans ((p1_other (by decide)).trans (p1_same _ _ _ _))))
  · exact (q _ (w2 (fun e => no3 e rfl))).trans (p1_same _ _ _ _)
  · exact (q _ (w2 (fun e => no3 e rfl))).trans (p1_same _ _ _ _)
