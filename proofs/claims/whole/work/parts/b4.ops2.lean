/-! ALL AGENTS: tick, seal, what comes -/
theorem pk_at {S : Nat → Nat} {G : Nat → ag_T} : ∀ k a, pk_G S G k a = if a < k ∧ S a = 1 then ag_tick (G a) else G a
  | 0, a => by
    rw [if_neg (by omega)]
    rfl
  | k + 1, a => by
    have ih := fun a => pk_at (S := S) (G := G) k a
    by_cases g : S k = 1
    · rw [show pk_G S G (k + 1) = va_up (pk_G S G k) k (ag_tick (pk_G S G k k)) from if_pos g]
      by_cases g2 : a = k
      · subst g2
        rw [fm_upS, ih, if_neg (by omega), if_pos ⟨by omega, g⟩]
      · rw [fm_upN g2, ih]
        by_cases g3 : a < k ∧ S a = 1
        · rw [if_pos g3, if_pos ⟨by omega, g3.2⟩]
        · rw [if_neg g3, if_neg (fun q => g3 ⟨by omega, q.2⟩)]
    · rw [show pk_G S G (k + 1) = pk_G S G k from if_neg g, ih]
      by_cases g3 : a < k ∧ S a = 1
      · rw [if_pos g3, if_pos ⟨by omega, g3.2⟩]
      · rw [if_neg g3, if_neg (fun q => g3 ⟨by
          have : a ≠ k := fun e => g (by rw [← e]; exact q.2)
          omega, q.2⟩)]
theorem tick_at {A : ag_T} {k : Nat} (h : k ≠ 6) : (ag_tick A).1 k = A.1 k := (fm_upN h : va_up A.1 6 (A.1 6 - 1) k = A.1 k)
theorem send_in {ms : List mg_T} {q p : mg_T} (h : q ∈ wi_send ms p) : q ∈ ms ∨ q = p := by
  unfold wi_send at h
  split at h
  · rcases List.mem_append.mp h with e | e
    · exact Or.inl e
    · exact Or.inr (List.mem_singleton.mp e)
  · exact Or.inl h
theorem ar_in {j : Nat} {m s : am_T} {ms : List mg_T} {q : mg_T} : ∀ k, q ∈ ar_all j m s ms k → q ∈ ms ∨ ∃ a, a < k ∧ m.1 a = 2 ∧ s.1 a = 2 ∧ (s.2.2.2.2.1 a).1 4 = (m.2.2.2.2.1 a).1 4 ∧ q = (0, (m.2.2.2.2.1 a).1 0, nI ((m.2.2.2.2.1 a).1 4), nI j, m.2.2.2.1 a, im_B (m.2.2.2.2.1 a))
  | 0, h => Or.inl h
  | k + 1, h => by
    have h : q ∈ ar_one j m s k (ar_all j m s ms k) := h
    unfold ar_one at h
    split at h
    · rename_i e
      rcases send_in h with w | w
      · rcases ar_in k w with v | ⟨a, v1, v2⟩
        · exact Or.inl v
        · exact Or.inr ⟨a, by omega, v2⟩
      · exact Or.inr ⟨k, by omega, e.1, e.2.1, e.2.2, w⟩
    · rcases ar_in k h with v | ⟨a, v1, v2⟩
      · exact Or.inl v
      · exact Or.inr ⟨a, by omega, v2⟩
section GLT
variable {m c s : Nat → am_T} {ms : List mg_T} {C : Nat → Nat} {L : Nat}
theorem gi_pass {N g : Nat → Nat} {I : Nat → ag_T} (h : gI N g I m c s ms C L) (j : Nat) : gI N g I (va_up m j (am_pass (m j))) c s ms C L := by
  have h1 := fun a ha => ((h.1 a ha).2.1 j).1
  have h2 := fun a ha => ((h.1 a ha).2.2.1 j).2
  have h1 : ∀ a, a < 8 → pr_R a (N a) (g a) (I a) (C a) (fun d => kn (gi_x a s d).2.1) j 0 (ro a (m j)) := h1
  have h2 : ∀ a, a < 8 → pr_L (ro a (c j)) (ro a (m j)) := h2
  refine gi_all h (fun a ha => ?_) (fun a ha => ?_) (fun a ha => ?_) (fun a ha => ?_)
  · have r := h1 a ha
    revert r
    rcases m j with ⟨S, K, O, T, G, H, V, D⟩
    intro r
    have r : pr_R a (N a) (g a) (I a) (C a) (fun d => kn (gi_x a s d).2.1) j 0 (S a, K a, O a, T a, G a, H a, D a) := r
    show pr_R a (N a) (g a) (I a) (C a) (fun d => kn (gi_x a s d).2.1) j 0 (S a, K a, O a, T a, pk_G S G 8 a, H a, D a)
    rw [pk_at]
    by_cases e : a < 8 ∧ S a = 1
    · rw [if_pos e]
      rw [e.2] at r ⊢
      exact prR_step r (by decide) (tick_wf (r.2.1.2.1 (by decide)).1) (Or.inl ⟨Or.inl rfl, tick_at (by decide)⟩) (Or.inl ⟨tick_at (by decide), rfl, rfl⟩)
    · rw [if_neg e]
      exact r
  · have r := h2 a ha
    revert r
    rcases m j with ⟨S, K, O, T, G, H, V, D⟩
    intro r
    have r : pr_L (ro a (c j)) (S a, K a, O a, T a, G a, H a, D a) := r
    show pr_L (ro a (c j)) (S a, K a, O a, T a, pk_G S G 8 a, H a, D a)
    rw [pk_at]
    by_cases e : a < 8 ∧ S a = 1
    · rw [if_pos e]
      exact prL_on r e.2
    · rw [if_neg e]
      exact r
  · rcases m j with ⟨S, K, O, T, G, H, V, D⟩
    rfl
  · rcases m j with ⟨S, K, O, T, G, H, V, D⟩
    show (pk_G S G 8 a).1 7 ≠ 0 ↔ (G a).1 7 ≠ 0
    rw [pk_at]
    by_cases e : a < 8 ∧ S a = 1
    · rw [if_pos e, tick_at (by decide)]
    · rw [if_neg e]
theorem gi_send {N g : Nat → Nat} {I : Nat → ag_T} (h : gI N g I m c s ms C L) {j : Nat} (hj : j < 4) : gI N g I m c s (ar_all j (m j) (s j) ms 8) C L := by
  have fact : ∀ a, a < 8 → (m j).1 a = 2 → (s j).1 a = 2 → ((s j).2.2.2.2.1 a).1 4 = ((m j).2.2.2.2.1 a).1 4 → ag_wf a ((m j).2.2.2.2.1 a) ∧ 1 ≤ kn ((s j).2.1 a) ∧ 1 ≤ kn ((m j).2.1 a) ∧ ∃ d, d < 4 ∧ (m j).2.2.2.1 a = nI d ∧ ((m j).2.2.2.2.1 a).1 4 ≤ N a ∧ (((m j).2.2.2.2.1 a).1 4 = N a → d = g a ∧ (m j).2.2.2.2.1 a = I a) ∧ (((m j).2.2.2.2.1 a).1 4 < N a → ((m j).2.2.2.2.1 a).1 4 < kn (gi_x a s d).2.1) := fun a ha e1 e2 e3 => by
    have r0 : pr_R a (N a) (g a) (I a) (C a) (fun d => kn (gi_x a s d).2.1) j 0 (ro a (m j)) := ((h.1 a ha).2.1 j).1
    have r2 : pr_R a (N a) (g a) (I a) (C a) (fun d => kn (gi_x a s d).2.1) j 2 (ro a (s j)) := ((h.1 a ha).2.1 j).2.2
    unfold ro at r0 r2
    obtain ⟨p1, d, p2, p3, p4⟩ := r0.2.2.2.1 e1
    obtain ⟨q1, d', q2, q3, q4⟩ := r2.2.2.2.1 e2
    have w := (r0.2.1.2.1 (by omega)).1
    refine ⟨w, (r2.2.1.2.1 (by omega)).2, (r0.2.1.2.1 (by omega)).2, d, p2, p3, ?_⟩
    have hle : kn ((s j).2.1 a) ≤ N a := by
      rcases q4 with q | q | q
      · exact absurd rfl q.2.2
      · omega
      · omega
    rcases p4 with q | q | q
    · omega
    · exact ⟨by omega, fun _ => ⟨q.2.1, q.2.2⟩, fun _ => by omega⟩
    · exact ⟨by omega, fun _ => by omega, fun _ => by rw [p1]; exact q.2⟩
  obtain ⟨h1, h2, h3, h4⟩ := h
  refine ⟨fun a ha => pi_ms (h1 a ha) (fun q hq => ?_), fun a ha => pc_same (h2 a ha) (fun i => ⟨rfl, fun _ => Iff.rfl⟩) (fun _ => rfl) (fun hz q hq => ?_), h3, fun q hq => ?_⟩
  · rcases ar_in 8 hq with w | ⟨b, b8, e1, e2, e3, e4⟩
    · exact Or.inl w
    · right
      obtain ⟨f1, f2, f0, d, f3, f4, f5, f6, f7⟩ := fact b b8 e1 e2 e3
      subst e4
      intro e5
      have e5 : ((m j).2.2.2.2.1 b).1 0 = a := e5
      rw [f1.2.2.1] at e5
      subst e5
      exact Or.inr ⟨rfl, _, d, f1, rfl, rfl, f3, f4, f5, f6, f7⟩
  · rcases ar_in 8 hq with w | ⟨b, b8, e1, e2, e3, e4⟩
    · exact Or.inl w
    · right
      obtain ⟨f1, f2, f0, d, f3, f4, f5, f6, f7⟩ := fact b b8 e1 e2 e3
      subst e4
      intro e5
      have e5 : ((m j).2.2.2.2.1 b).1 0 = a + 4 := e5
      rw [f1.2.2.1] at e5
      subst e5
      have := hz j
      have this : kn ((s j).2.1 (a + 4)) = 0 := this
      omega
  · rcases ar_in 8 hq with w | ⟨b, b8, e1, e2, e3, e4⟩
    · exact h4 q w
    · obtain ⟨f1, f2, f0, d, f3, f4, f5, f6, f7⟩ := fact b b8 e1 e2 e3
      subst e4
      have hb : ((m j).2.2.2.2.1 b).1 0 = b := f1.2.2.1
      refine ⟨⟨by show (0 : Nat) ≤ 1; decide, imB_len f1.1, imB_256 b8 f1⟩, by show ((m j).2.2.2.2.1 b).1 0 < 8; omega, ?_, ⟨j, hj, rfl⟩, ⟨d, f3, f4⟩⟩
      show ((m j).2.2.2.2.1 b).1 0 % 4 < L
      rw [hb]
      by_cases e : b % 4 < L
      · exact e
      · have := h3.2 b b8 (by omega) j
        omega
theorem gi_tick (h : GI m c s ms C L) {j : Nat} (hj : j < 4) : GI (va_up m j (am_pass (m j))) c s (ar_all j (am_pass (m j)) (s j) ms 8) C L := by
  obtain ⟨N, g, I, h⟩ := h
  have r := gi_send (gi_pass h j) hj
  rw [fm_upS] at r
  exact ⟨N, g, I, r⟩
theorem slO_at {s m : am_T} : ∀ k a, sl_O s m k a = m.2.2.1 a ∨ sl_O s m k a = -1
  | 0, a => Or.inl rfl
  | k + 1, a => by
    show (if ¬ s.2.2.1 k = -1 ∧ m.2.1 k = s.2.1 k then va_up (sl_O s m k) k (-1) else sl_O s m k) a = _ ∨ (if ¬ s.2.2.1 k = -1 ∧ m.2.1 k = s.2.1 k then va_up (sl_O s m k) k (-1) else sl_O s m k) a = -1
    split
    · by_cases e : a = k
      · subst e; rw [fm_upS]; exact Or.inr rfl
      · rw [fm_upN e]; exact slO_at k a
    · exact slO_at k a
theorem slW_in {j : Nat} {s : am_T} {ms : List mg_T} {q : mg_T} : ∀ k, q ∈ sl_W j s ms k → q ∈ ms ∨ ∃ a, a < k ∧ s.2.2.1 a ≠ -1 ∧ q = (1, a, s.2.1 a, nI j, s.2.2.1 a, [])
  | 0, h => Or.inl h
  | k + 1, h => by
    have h : q ∈ (if s.2.2.1 k = -1 then sl_W j s ms k else wi_send (sl_W j s ms k) (1, k, s.2.1 k, nI j, s.2.2.1 k, [])) := h
    split at h
    · rcases slW_in k h with v | ⟨a, v1, v2⟩
      · exact Or.inl v
      · exact Or.inr ⟨a, by omega, v2⟩
    · rename_i e
      rcases send_in h with w | w
      · rcases slW_in k w with v | ⟨a, v1, v2⟩
        · exact Or.inl v
        · exact Or.inr ⟨a, by omega, v2⟩
      · exact Or.inr ⟨k, by omega, e, w⟩
theorem gi_seal (h : GI m c s ms C L) {j : Nat} (hj : j < 4) : GI (va_up m j (am_ow (m j) (sl_O (c j) (m j) 8))) c (va_up s j (c j)) (sl_W j (c j) ms 8) (sr_C C (c j).2.2.2.2.2.2.2) L := by
  obtain ⟨N, g, I, h⟩ := h
  have hC : ∀ a, C a ≤ sr_C C (c j).2.2.2.2.2.2.2 a ∧ (c j).2.2.2.2.2.2.2 a ≤ sr_C C (c j).2.2.2.2.2.2.2 a := fun a => by
    unfold sr_C
    split <;> omega
  have rc : ∀ a, a < 8 → pr_R a (N a) (g a) (I a) (C a) (fun d => kn (gi_x a s d).2.1) j 1 (ro a (c j)) := fun a ha => ((h.1 a ha).2.1 j).2.1
  have row : ∀ a, ro a (am_ow (m j) (sl_O (c j) (m j) 8)) = ((m j).1 a, (m j).2.1 a, sl_O (c j) (m j) 8 a, (m j).2.2.2.1 a, (m j).2.2.2.2.1 a, (m j).2.2.2.2.2.1 a, (m j).2.2.2.2.2.2.2 a) := fun a => rfl
  -- the receipts
  have rcp : ∀ a, a < 8 → (c j).2.2.1 a ≠ -1 → 1 ≤ kn ((c j).2.1 a) ∧ (∃ n, n ≤ N a ∧ (c j).2.1 a = nI n) ∧ ∃ d, d < 4 ∧ (c j).2.2.1 a = nI d := fun a ha ho => by
    have r := rc a ha
    unfold ro at r
    obtain ⟨k0, ⟨c1, c2, c3, c4⟩, _⟩ := r
    rcases c3 with e | ⟨e1, d, e2, e3⟩
    · exact absurd e ho
    · refine ⟨e1, ⟨kn ((c j).2.1 a) - 1, by omega, ?_⟩, d, e2, e3⟩
      have : kn ((c j).2.1 a) = (kn ((c j).2.1 a) - 1) + 1 := by omega
      rw [this] at k0
      exact k0.symm
  have hm : ∀ a, a < 8 → ∀ q ∈ sl_W j (c j) ms 8, q ∈ ms ∨ (q.2.1 = a → q.1 = 1 ∧ ∃ n, n ≤ N a ∧ q.2.2.1 = nI n) := fun a ha q hq => by
    rcases slW_in 8 hq with e | ⟨b, b8, e1, e2⟩
    · exact Or.inl e
    · right
      subst e2
      intro e
      have e : b = a := e
      subst e
      exact ⟨rfl, (rcp b b8 e1).2.1⟩
  have hdc : ∀ a, Decidable ((c j).1 a = 2 ∧ kn ((c j).2.1 a) = N a + 1) := fun a => inferInstance
  obtain ⟨h1, h2, h3, h4⟩ := h
  -- the new hop of one agent
  have one : ∀ a, a < 8 → ∃ N' g' I', pr_I a N' g' I' (sr_C C (c j).2.2.2.2.2.2.2 a) (gi_x a (va_up m j (am_ow (m j) (sl_O (c j) (m j) 8)))) (gi_x a c) (gi_x a (va_up s j (c j))) (sl_W j (c j) ms 8) ∧ ((N' = N a ∧ g' = g a ∧ I' = I a) ∨ (N' = N a + 1 ∧ I' = (c j).2.2.2.2.1 a ∧ j = g a ∧ kn ((c j).2.1 a) = N a + 1 ∧ (m j).2.2.2.2.1 a = (c j).2.2.2.2.1 a)) := fun a ha => by
    by_cases e : (c j).1 a = 2 ∧ kn ((c j).2.1 a) = N a + 1
    · have r := rc a ha
      unfold ro at r
      obtain ⟨p1, d, p2, p3, p4⟩ := r.2.2.2.1 e.1
      have key := pi_seal1 (h1 a ha) (j := j) (g' := d) (Cb := sr_C C (c j).2.2.2.2.2.2.2 a) (S := (m j).1 a) (K := (m j).2.1 a) (O := (m j).2.2.1 a) (O' := sl_O (c j) (m j) 8 a) (T := (m j).2.2.2.1 a) (G := (m j).2.2.2.2.1 a) (H := (m j).2.2.2.2.2.1 a) (D := (m j).2.2.2.2.2.2.2 a) (K1 := (c j).2.1 a) (O1 := (c j).2.2.1 a) (G1 := (c j).2.2.2.2.1 a) (H1 := (c j).2.2.2.2.2.1 a) (D1 := (c j).2.2.2.2.2.2.2 a) (mt := sl_W j (c j) ms 8) rfl (by show ro a (c j) = _; unfold ro; rw [e.1, p3]) p2 e.2 (slO_at 8 a) (hC a).1 (hC a).2 (hm a ha)
      refine ⟨N a + 1, d, (c j).2.2.2.2.1 a, ?_, Or.inr ⟨rfl, rfl, key.2.2.2, e.2, key.2.2.1⟩⟩
      rw [gx_up, gx_up, row]
      exact key.1
    · refine ⟨N a, g a, I a, ?_, Or.inl ⟨rfl, rfl, rfl⟩⟩
      rw [gx_up, gx_up, row]
      exact pi_seal0 (h1 a ha) (O := (m j).2.2.1 a) rfl (slO_at 8 a) (hC a).1 e (hm a ha)
  have ex : ∃ (N' g' : Nat → Nat) (I' : Nat → ag_T), ∀ a, a < 8 → pr_I a (N' a) (g' a) (I' a) (sr_C C (c j).2.2.2.2.2.2.2 a) (gi_x a (va_up m j (am_ow (m j) (sl_O (c j) (m j) 8)))) (gi_x a c) (gi_x a (va_up s j (c j))) (sl_W j (c j) ms 8) ∧ ((N' a = N a ∧ g' a = g a ∧ I' a = I a) ∨ (N' a = N a + 1 ∧ I' a = (c j).2.2.2.2.1 a ∧ j = g a ∧ kn ((c j).2.1 a) = N a + 1 ∧ (m j).2.2.2.2.1 a = (c j).2.2.2.2.1 a)) := by
    have q : ∀ a, ∃ w : Nat × Nat × ag_T, a < 8 → pr_I a w.1 w.2.1 w.2.2 (sr_C C (c j).2.2.2.2.2.2.2 a) (gi_x a (va_up m j (am_ow (m j) (sl_O (c j) (m j) 8)))) (gi_x a c) (gi_x a (va_up s j (c j))) (sl_W j (c j) ms 8) ∧ ((w.1 = N a ∧ w.2.1 = g a ∧ w.2.2 = I a) ∨ (w.1 = N a + 1 ∧ w.2.2 = (c j).2.2.2.2.1 a ∧ j = g a ∧ kn ((c j).2.1 a) = N a + 1 ∧ (m j).2.2.2.2.1 a = (c j).2.2.2.2.1 a)) := fun a => by
      by_cases ha : a < 8
      · obtain ⟨N', g', I', e⟩ := one a ha
        exact ⟨(N', g', I'), fun _ => e⟩
      · exact ⟨(0, 0, I 0), fun w => absurd w ha⟩
    obtain ⟨f, hf⟩ := Classical.axiomOfChoice q
    exact ⟨fun a => (f a).1, fun a => (f a).2.1, fun a => (f a).2.2, hf⟩
  obtain ⟨N', g', I', hN⟩ := ex
  have kx : ∀ a i, kn (gi_x a (va_up m j (am_ow (m j) (sl_O (c j) (m j) 8))) i).2.1 = kn (gi_x a m i).2.1 ∧ pr_cl (gi_x a (va_up m j (am_ow (m j) (sl_O (c j) (m j) 8))) i) = pr_cl (gi_x a m i) := fun a i => by
    rw [gx_up]
    by_cases e : i = j
    · subst e; rw [fm_upS]; exact ⟨rfl, rfl⟩
    · rw [fm_upN e]; exact ⟨rfl, rfl⟩
  refine ⟨N', g', I', fun a ha => (hN a ha).1, fun a ha => ?_, ⟨h3.1, fun a ha hLa i => ?_⟩, fun q hq => ?_⟩
  · have h1a := h1 a (by omega)
    have hmm : ∀ q ∈ sl_W j (c j) ms 8, q ∈ ms ∨ q.2.1 ≠ a + 4 ∨ kn (gi_x (a + 4) c j).2.1 ≠ 0 := fun q hq => by
      rcases slW_in 8 hq with e | ⟨b, b8, e1, e2⟩
      · exact Or.inl e
      · right
        subst e2
        by_cases e : b = a + 4
        · right
          subst e
          have := (rcp (a + 4) b8 e1).1
          show kn ((c j).2.1 (a + 4)) ≠ 0
          omega
        · exact Or.inl e
    rw [gx_up (m := s), gx_up (m := s)]
    rcases (hN a (by omega)).2 with ⟨e1, e2, e3⟩ | ⟨e1, e2, e3, e4, e5⟩
    · rw [e1, e2, e3]
      exact pc_seal0 (h2 a ha) j (kx a) (fun i => (kx (a + 4) i).1) hmm (fun i => ⟨fun q => prR_at (h1a.2.1 i).1 q, fun q => prR_at (h1a.2.1 i).2.1 q, fun q => prR_at (h1a.2.1 i).2.2 q⟩) (fun i => ⟨prL_k (h1a.2.2.1 i).1, prR_le (h1a.2.1 i).2.1⟩) (prL_k ((h1 (a + 4) (by omega)).2.2.1 j).2)
    · rw [e1, e2]
      exact pc_seal1 (h2 a ha) j (kx a) (fun i => (kx (a + 4) i).1) hmm (fun i => ⟨prR_le (h1a.2.1 i).1, prR_le (h1a.2.1 i).2.1, prR_le (h1a.2.1 i).2.2⟩) e3 e4 rfl (congrArg (fun q : ag_T => q.1 7) e5)
  · have := (kx a i).1
    have h9 : kn ((va_up m j (am_ow (m j) (sl_O (c j) (m j) 8)) i).2.1 a) = kn ((m i).2.1 a) := this
    rw [h9]
    exact h3.2 a ha hLa i
  · rcases slW_in 8 hq with e | ⟨b, b8, e1, e2⟩
    · exact h4 q e
    · subst e2
      obtain ⟨r1, r2, d, r3, r4⟩ := rcp b b8 e1
      refine ⟨⟨Nat.le_refl 1, by show ([] : List Nat).length ≤ 121; decide, fun v hv => absurd hv (List.not_mem_nil)⟩, b8, ?_, ⟨j, hj, rfl⟩, ⟨d, r3, r4⟩⟩
      show b % 4 < L
      by_cases e : b % 4 < L
      · exact e
      · have q1 := h3.2 b b8 (by omega) j
        have q2 := prL_k ((h1 b b8).2.2.1 j).2
        have q2 : kn ((c j).2.1 b) ≤ kn ((m j).2.1 b) := q2
        omega
/-- what sealing needs of the words -/
theorem gi_words {N g : Nat → Nat} {I : Nat → ag_T} (h : gI N g I m c s ms C L) (hC : ∀ a, a < 8 → C a ≤ 16) (j : Nat) : sr_ok C (c j).2.2.2.2.2.2.2 (c j).2.2.2.2.2.1 (fun a => bt ((c j).2.2.2.2.2.1 a)) := fun a ha => by
  have r : pr_R a (N a) (g a) (I a) (C a) (fun d => kn (gi_x a s d).2.1) j 1 (ro a (c j)) := ((h.1 a ha).2.1 j).2.1
  unfold ro at r
  obtain ⟨k0, c1, c5, c6, c7, c8, c9, c10, c11, c12⟩ := r
  exact ⟨hC a ha, c10, bt_H c10 c11, fun i _ q => c11 i q, fun i hi => c12 i hi⟩
theorem gi_owed {N g : Nat → Nat} {I : Nat → ag_T} (h : gI N g I m c s ms C L) (j : Nat) : (∀ a, a < 8 → (c j).2.2.2.2.2.2.2 a ≤ 16) ∧ ∀ a, a < 8 → (c j).2.2.1 a = -1 ∨ ¬ (c j).2.2.1 a < 0 := by
  have r := fun a (ha : a < 8) => (show pr_R a (N a) (g a) (I a) (C a) (fun d => kn (gi_x a s d).2.1) j 1 (ro a (c j)) from ((h.1 a ha).2.1 j).2.1)
  refine ⟨fun a ha => (r a ha).2.2.2.2.2.2.2.1, fun a ha => ?_⟩
  rcases (r a ha).2.1.2.2.1 with e | ⟨e1, d, e2, e3⟩
  · exact Or.inl e
  · right
    have e3 : (c j).2.2.1 a = nI d := e3
    rw [e3]
    rcases (show d = 0 ∨ d = 1 ∨ d = 2 ∨ d = 3 by omega) with rfl | rfl | rfl | rfl <;> decide
end GLT
