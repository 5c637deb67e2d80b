/-! ALL AGENTS: a message is delivered -/
section GLD
variable {m c s : Nat → am_T} {ms : List mg_T} {C : Nat → Nat} {L : Nat}
theorem gi_rcp {N g : Nat → Nat} {I : Nat → ag_T} (h : gI N g I m c s ms C L) {q0 : mg_T} {j n : Nat} (hq : q0 ∈ ms) (hj : j < 4) (hn : n ≤ N q0.2.1) (hf : q0.2.2.1 = nI n) : gI N g I m c s ((1, q0.2.1, q0.2.2.1, nI j, q0.2.2.2.1, []) :: ms) C L := by
  obtain ⟨h1, h2, h3, h4⟩ := h
  obtain ⟨b1, b2, b3, b4, b5⟩ := h4 q0 hq
  refine ⟨fun a ha => pi_ms (h1 a ha) (fun q hq1 => ?_), fun a ha => ?_, h3, fun q hq1 => ?_⟩
  · rcases List.mem_cons.mp hq1 with e | e
    · right
      subst e
      intro e2
      have e2 : q0.2.1 = a := e2
      subst e2
      exact Or.inl ⟨rfl, n, hn, hf⟩
    · exact Or.inl e
  · by_cases e : q0.2.1 = a + 4
    · exact pc_child (h2 a ha) hq e
    · refine pc_same (h2 a ha) (fun i => ⟨rfl, fun _ => Iff.rfl⟩) (fun _ => rfl) (fun _ q hq1 => ?_)
      rcases List.mem_cons.mp hq1 with e1 | e1
      · right
        subst e1
        exact e
      · exact Or.inl e1
  · rcases List.mem_cons.mp hq1 with e | e
    · subst e
      exact ⟨⟨Nat.le_refl 1, by show ([] : List Nat).length ≤ 121; decide, fun v hv => absurd hv (List.not_mem_nil)⟩, b2, b3, ⟨j, hj, rfl⟩, b4⟩
    · exact h4 q e
theorem gi_acc {N g : Nat → Nat} {I : Nat → ag_T} (h : gI N g I m c s ms C L) {q0 : mg_T} {j : Nat} {r : am_T} (hq : q0 ∈ ms) (hj : j = g q0.2.1) (hk : kn ((m j).2.1 q0.2.1) ≤ N q0.2.1) (hw : ag_wf q0.2.1 (I q0.2.1)) (h4' : (I q0.2.1).1 4 = N q0.2.1) (h1' : ∀ a, a ≠ q0.2.1 → ro a r = ro a (m j)) (hr : ro q0.2.1 r = (1, nI (N q0.2.1), q0.2.2.2.1, (m j).2.2.2.1 q0.2.1, I q0.2.1, (m j).2.2.2.2.2.1 q0.2.1, (m j).2.2.2.2.2.2.2 q0.2.1)) : gI N g I (va_up m j r) c s ms C L := by
  obtain ⟨h1, h2, h3, h4⟩ := h
  obtain ⟨b1, b2, b3, ⟨f, f4, fe⟩, b5⟩ := h4 q0 hq
  generalize ea : q0.2.1 = a0 at *
  have kN : kn (nI (N a0)) = N a0 + 1 := kn_nI (by have := (h1 a0 b2).1.1; omega)
  refine ⟨fun a ha => ?_, fun a ha => ?_, ⟨h3.1, fun a ha hLa i => ?_⟩, h4⟩
  · by_cases e : a = a0
    · subst e
      rw [gx_up, hr]
      subst hj
      exact pi_acc (h1 a ha) (S := (m (g a)).1 a) (K := (m (g a)).2.1 a) (O := (m (g a)).2.2.1 a) (G := (m (g a)).2.2.2.2.1 a) rfl hk hw h4' f4 fe
    · rw [gx_same (h1' a e)]
      exact h1 a ha
  · by_cases e : a = a0
    · subst e
      rw [gx_up, hr, gx_same (h1' (a + 4) (by omega))]
      subst hj
      have z1 := prL_k ((h1 a (by omega)).2.2.1 (g a)).1
      have z2 := prL_k ((h1 a (by omega)).2.2.1 (g a)).2
      exact pc_acc (h2 a ha) hk (Nat.le_trans z1 z2) kN rfl
    · rw [gx_same (h1' a e)]
      by_cases e2 : a0 = a + 4
      · exact pc_child (h2 a ha) hq (ea.trans e2)
      · rw [gx_same (h1' (a + 4) (fun w => e2 w.symm))]
        exact h2 a ha
  · have hne : a ≠ a0 := fun e => by
      subst e
      omega
    have h9 := congrFun (gx_same (m := m) (j := j) (h1' a hne)) i
    have h9 : ro a (va_up m j r i) = ro a (m i) := h9
    have h10 : kn ((va_up m j r i).2.1 a) = kn ((m i).2.1 a) := congrArg (fun q : rw_T => kn q.2.1) h9
    rw [h10]
    exact h3.2 a ha hLa i
theorem gi_dv (h : GI m c s ms C L) {k : Nat} {q0 : mg_T} (hk : ms[k]? = some q0) : ∃ (j : Nat) (A : ag_T), j < 4 ∧ q0.2.2.2.2.1 = nI j ∧ (q0.1 = 0 → q0.2.2.2.2.2 = im_B A ∧ ag_wf q0.2.1 A) ∧ GI (va_up m j (dv_M q0 A (m j))) c s (dv_W j q0 (m j) (s j) (ms.eraseIdx k)) C L := by
  obtain ⟨N, g, I, h⟩ := h
  have hq : q0 ∈ ms := List.mem_of_getElem? hk
  obtain ⟨b1, b2, b3, b4, d, d4, de⟩ := h.2.2.2 q0 hq
  have hN : N q0.2.1 ≤ 200 := (h.1 _ b2).1.1
  have er : ∀ q, q ∈ ms.eraseIdx k → q ∈ ms := fun q w => List.mem_of_mem_eraseIdx w
  have hR : pr_R q0.2.1 (N q0.2.1) (g q0.2.1) (I q0.2.1) (C q0.2.1) (fun d => kn (gi_x q0.2.1 s d).2.1) d 0 (ro q0.2.1 (m d)) := ((h.1 _ b2).2.1 d).1
  have hL1 : pr_L (ro q0.2.1 (c d)) (ro q0.2.1 (m d)) := ((h.1 _ b2).2.2.1 d).2
  have hk0 : kI (kn ((m d).2.1 q0.2.1)) = (m d).2.1 q0.2.1 := hR.1
  have hkl : kn ((m d).2.1 q0.2.1) ≤ N q0.2.1 + 1 := prR_le hR
  have sm : kn ((s d).2.1 q0.2.1) ≤ kn ((m d).2.1 q0.2.1) := Nat.le_trans (prL_k ((h.1 _ b2).2.2.1 d).1) (prL_k ((h.1 _ b2).2.2.1 d).2)
  rcases (h.1 _ b2).2.2.2 q0 hq rfl with ⟨e0, n, n1, n2⟩ | ⟨e0, A, d', w, a1, a2, a3, a4, a5, a6, a7⟩
  · refine ⟨d, I 0, d4, de, fun e => by omega, ?_⟩
    have eW : dv_W d q0 (m d) (s d) (ms.eraseIdx k) = ms.eraseIdx k := if_pos e0
    rw [eW]
    refine gi_sub ⟨N, g, I, ?_⟩ er
    revert hR hL1
    rcases hm : m d with ⟨S, K, O, T, G, H, V, D⟩
    intro hR hL1
    have hR : pr_R q0.2.1 (N q0.2.1) (g q0.2.1) (I q0.2.1) (C q0.2.1) (fun d => kn (gi_x q0.2.1 s d).2.1) d 0 (S q0.2.1, K q0.2.1, O q0.2.1, T q0.2.1, G q0.2.1, H q0.2.1, D q0.2.1) := hR
    have hL1 : pr_L (ro q0.2.1 (c d)) (S q0.2.1, K q0.2.1, O q0.2.1, T q0.2.1, G q0.2.1, H q0.2.1, D q0.2.1) := hL1
    have eM : dv_M q0 (I 0) (S, K, O, T, G, H, V, D) = if S q0.2.1 = 2 ∧ nI ((G q0.2.1).1 4) = q0.2.2.1 then (va_up S q0.2.1 0, K, O, T, G, H, V, D) else (S, K, O, T, G, H, V, D) := if_pos e0
    rw [eM]
    by_cases e1 : S q0.2.1 = 2 ∧ nI ((G q0.2.1).1 4) = q0.2.2.1
    · rw [if_pos e1]
      have hw := (hR.2.1.2.1 (by omega)).1
      have h6 := hw.2.2.2.2.2.1
      have hh : (G q0.2.1).1 4 = n := nI_inj (by omega) (by omega) (e1.2.trans n2)
      have hkk := (hR.2.2.2.1 e1.1).1
      have hro : ro q0.2.1 (va_up S q0.2.1 0, K, O, T, G, H, V, D) = (0, K q0.2.1, O q0.2.1, T q0.2.1, G q0.2.1, H q0.2.1, D q0.2.1) := by
        show (va_up S q0.2.1 0 q0.2.1, K q0.2.1, O q0.2.1, T q0.2.1, G q0.2.1, H q0.2.1, D q0.2.1) = _
        rw [fm_upS]
      refine gi_row h b2 (fun a ha => ?_) (by rw [hro]; exact prR_e hR (by omega)) (by rw [hro]; exact prL_e hL1) (by rw [hm]) (by rw [hm])
      rw [hm]
      show (va_up S q0.2.1 0 a, K a, O a, T a, G a, H a, D a) = (S a, K a, O a, T a, G a, H a, D a)
      rw [fm_upN ha]
    · rw [if_neg e1, ← hm, va_same rfl]
      exact h
  · obtain rfl : d' = d := by
      rcases (show d' = 0 ∨ d' = 1 ∨ d' = 2 ∨ d' = 3 by omega) with rfl | rfl | rfl | rfl <;> rcases (show d = 0 ∨ d = 1 ∨ d = 2 ∨ d = 3 by omega) with rfl | rfl | rfl | rfl <;> first | rfl | exact absurd (a4.symm.trans de) (by decide)
    refine ⟨d', A, d4, de, fun _ => ⟨a1, w⟩, ?_⟩
    have ne1 : ¬ q0.1 = 1 := by omega
    have hacc : (m d').2.1 q0.2.1 < q0.2.2.1 ↔ kn ((m d').2.1 q0.2.1) ≤ A.1 4 := by
      rw [a2]
      have := kI_lt (k := kn ((m d').2.1 q0.2.1)) (n := A.1 4) (by omega) (by omega)
      rw [hk0] at this
      exact this
    by_cases e1 : (m d').2.1 q0.2.1 < q0.2.2.1
    · have eW : dv_W d' q0 (m d') (s d') (ms.eraseIdx k) = ms.eraseIdx k := by
        unfold dv_W
        rw [if_neg ne1, if_pos e1]
      rw [eW]
      have hle := hacc.mp e1
      have hAN : A.1 4 = N q0.2.1 := by
        by_cases e2 : A.1 4 = N q0.2.1
        · exact e2
        · have := a7 (by omega)
          have this : A.1 4 < kn ((s d').2.1 q0.2.1) := this
          omega
      obtain ⟨g1, g2⟩ := a6 hAN
      refine gi_sub ⟨N, g, I, gi_acc h hq g1 (by omega) (by rw [← g2]; exact w) (by rw [← g2]; exact hAN) (fun a ha => ?_) ?_⟩ er
      · revert e1
        rcases m d' with ⟨S, K, O, T, G, H, V, D⟩
        intro e1
        have e1 : K q0.2.1 < q0.2.2.1 := e1
        have eM : dv_M q0 A (S, K, O, T, G, H, V, D) = (va_up S q0.2.1 1, va_up K q0.2.1 q0.2.2.1, va_up O q0.2.1 q0.2.2.2.1, T, va_up G q0.2.1 A, H, V, D) := by
          show (if q0.1 = 1 then _ else if K q0.2.1 < q0.2.2.1 then _ else _) = _
          rw [if_neg ne1, if_pos e1]
        rw [eM]
        show (va_up S q0.2.1 1 a, va_up K q0.2.1 q0.2.2.1 a, va_up O q0.2.1 q0.2.2.2.1 a, T a, va_up G q0.2.1 A a, H a, D a) = (S a, K a, O a, T a, G a, H a, D a)
        rw [fm_upN ha, fm_upN ha, fm_upN ha, fm_upN ha]
      · revert e1
        rcases m d' with ⟨S, K, O, T, G, H, V, D⟩
        intro e1
        have e1 : K q0.2.1 < q0.2.2.1 := e1
        have eM : dv_M q0 A (S, K, O, T, G, H, V, D) = (va_up S q0.2.1 1, va_up K q0.2.1 q0.2.2.1, va_up O q0.2.1 q0.2.2.2.1, T, va_up G q0.2.1 A, H, V, D) := by
          show (if q0.1 = 1 then _ else if K q0.2.1 < q0.2.2.1 then _ else _) = _
          rw [if_neg ne1, if_pos e1]
        rw [eM]
        show (va_up S q0.2.1 1 q0.2.1, va_up K q0.2.1 q0.2.2.1 q0.2.1, va_up O q0.2.1 q0.2.2.2.1 q0.2.1, T q0.2.1, va_up G q0.2.1 A q0.2.1, H q0.2.1, D q0.2.1) = (1, nI (N q0.2.1), q0.2.2.2.1, T q0.2.1, I q0.2.1, H q0.2.1, D q0.2.1)
        rw [fm_upS, fm_upS, fm_upS, fm_upS, a2, hAN, g2]
    · have eM : dv_M q0 A (m d') = m d' := by
        revert e1
        rcases m d' with ⟨S, K, O, T, G, H, V, D⟩
        intro e1
        have e1 : ¬ K q0.2.1 < q0.2.2.1 := e1
        show (if q0.1 = 1 then _ else if K q0.2.1 < q0.2.2.1 then _ else _) = _
        rw [if_neg ne1, if_neg e1]
      rw [eM, va_same rfl]
      have eW : dv_W d' q0 (m d') (s d') (ms.eraseIdx k) = if (s d').2.1 q0.2.1 < q0.2.2.1 then ms.eraseIdx k else wi_send (ms.eraseIdx k) (1, q0.2.1, q0.2.2.1, nI d', q0.2.2.2.1, []) := by
        unfold dv_W
        rw [if_neg ne1, if_neg e1]
      rw [eW]
      refine gi_sub ⟨N, g, I, gi_rcp h hq d4 a5 a2⟩ (fun q w1 => ?_)
      split at w1
      · exact List.mem_cons_of_mem _ (er q w1)
      · rcases send_in w1 with w2 | w2
        · exact List.mem_cons_of_mem _ (er q w2)
        · rw [w2]
          exact List.mem_cons_self
end GLD
