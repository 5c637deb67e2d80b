/-! ALL AGENTS: what holds between calls -/
def gi_x (a : Nat) (m : Nat → am_T) : Nat → rw_T := fun h => ro a (m h)
def mg_b (L : Nat) (q : mg_T) : Prop := mg_ok q ∧ q.2.1 < 8 ∧ q.2.1 % 4 < L ∧ (∃ d, d < 4 ∧ q.2.2.2.1 = nI d) ∧ (∃ d, d < 4 ∧ q.2.2.2.2.1 = nI d)
def gI (N g : Nat → Nat) (I : Nat → ag_T) (m c s : Nat → am_T) (ms : List mg_T) (C : Nat → Nat) (L : Nat) : Prop :=
  (∀ a, a < 8 → pr_I a (N a) (g a) (I a) (C a) (gi_x a m) (gi_x a c) (gi_x a s) ms) ∧
  (∀ a, a < 4 → pr_P a (N a) (g a) (I a) (gi_x a m) (gi_x a c) (gi_x a s) (gi_x (a + 4) m) (gi_x (a + 4) c) (gi_x (a + 4) s) ms) ∧
  (L ≤ 4 ∧ ∀ a, a < 8 → L ≤ a % 4 → ∀ h, kn ((m h).2.1 a) = 0) ∧
  (∀ q ∈ ms, mg_b L q)
def GI (m c s : Nat → am_T) (ms : List mg_T) (C : Nat → Nat) (L : Nat) : Prop := ∃ N g I, gI N g I m c s ms C L
theorem gx_up {a j : Nat} {m : Nat → am_T} {r : am_T} : gi_x a (va_up m j r) = va_up (gi_x a m) j (ro a r) := by
  funext i
  by_cases e : i = j
  · subst e
    show ro a (va_up m i r i) = _
    rw [fm_upS, fm_upS]
  · show ro a (va_up m j r i) = _
    rw [fm_upN e, fm_upN e]
    rfl
theorem gx_same {a j : Nat} {m : Nat → am_T} {r : am_T} (e : ro a r = ro a (m j)) : gi_x a (va_up m j r) = gi_x a m := by
  rw [gx_up, e]
  exact va_same rfl
theorem up_up {α : Type} {f : Nat → α} {j : Nat} {u v : α} : va_up (va_up f j u) j v = va_up f j v := by
  funext i
  by_cases e : i = j
  · subst e; rw [fm_upS, fm_upS]
  · rw [fm_upN e, fm_upN e, fm_upN e]
section GLO
variable {N g : Nat → Nat} {I : Nat → ag_T} {m c s : Nat → am_T} {ms : List mg_T} {C : Nat → Nat} {L : Nat}
theorem gi_wf (h : gI N g I m c s ms C L) (j : Nat) : am_wfs (m j) ∧ am_wfs (c j) ∧ am_wfs (s j) := by
  have key : ∀ (lv : Nat) (r : am_T), (∀ a, a < 8 → pr_R a (N a) (g a) (I a) (C a) (fun d => kn (gi_x a s d).2.1) j lv (ro a r)) → am_wfs r := fun lv r hr => by
    obtain ⟨S, K, O, T, G, H, V, D⟩ := r
    exact ⟨fun a ha => (hr a ha).2.1.1, fun a ha hs => ((hr a ha).2.1.2.1 hs).1⟩
  exact ⟨key 0 _ (fun a ha => ((h.1 a ha).2.1 j).1), key 1 _ (fun a ha => ((h.1 a ha).2.1 j).2.1), key 2 _ (fun a ha => ((h.1 a ha).2.1 j).2.2)⟩
theorem gi_W (h : gI N g I m c s ms C L) (j : Nat) : am_W (m j) := by
  have hw := (gi_wf h j).1
  have h1 := fun a ha => ((h.1 a ha).2.1 j).1
  have h2 := h.2.1
  have hx : ∀ a, gi_x a m j = ro a (m j) := fun a => rfl
  rcases hm : m j with ⟨S, K, O, T, G, H, V, D⟩
  rw [hm] at hw
  refine ⟨hw.1, hw.2, fun a ha hs hz => ?_⟩
  have ra := h1 a (by omega)
  have rc := h1 (a + 4) (by omega)
  rw [hx, hm] at ra rc
  obtain ⟨q1, q2, q3⟩ := ra.2.2.1 (Or.inl hs)
  have hf := (pc_free (h2 a ha) (j := j) q3 (by rw [hx, hm]; exact q1) (by rw [hx, hm]; exact hz)).1 j
  rw [hx, hm] at hf
  have hf : kn (K (a + 4)) = 0 := hf
  have k0 : kI (kn (K (a + 4))) = K (a + 4) := rc.1
  have hc2 : S (a + 4) ≠ 0 → ag_wf (a + 4) (G (a + 4)) ∧ 1 ≤ kn (K (a + 4)) := rc.2.1.2.1
  have hc3 : O (a + 4) = -1 ∨ (1 ≤ kn (K (a + 4)) ∧ ∃ d, d < 4 ∧ O (a + 4) = nI d) := rc.2.1.2.2.1
  refine ⟨?_, kn_0 k0 hf, ?_⟩
  · by_cases e : S (a + 4) = 0
    · exact e
    · have := (hc2 e).2
      omega
  · rcases hc3 with e | e
    · exact e
    · omega
/-- rows of one host's memory change; what is known stays -/
theorem gi_all (h : gI N g I m c s ms C L) {j : Nat} {r : am_T} (h2 : ∀ a, a < 8 → pr_R a (N a) (g a) (I a) (C a) (fun d => kn (gi_x a s d).2.1) j 0 (ro a r)) (h3 : ∀ a, a < 8 → pr_L (ro a (c j)) (ro a r)) (h4 : ∀ a, a < 8 → kn (r.2.1 a) = kn ((m j).2.1 a)) (h5 : ∀ a, a < 4 → ((r.2.2.2.2.1 a).1 7 ≠ 0 ↔ ((m j).2.2.2.2.1 a).1 7 ≠ 0)) : gI N g I (va_up m j r) c s ms C L := by
  obtain ⟨g1, g2, g3, g4⟩ := h
  have hk : ∀ a, a < 8 → ∀ i, kn (gi_x a (va_up m j r) i).2.1 = kn (gi_x a m i).2.1 := fun a ha i => by
    rw [gx_up]
    by_cases e : i = j
    · subst e; rw [fm_upS]; exact h4 a ha
    · rw [fm_upN e]
  refine ⟨fun a ha => ?_, fun a ha => ?_, ⟨g3.1, fun a ha hL i => ?_⟩, g4⟩
  · rw [gx_up]
    exact pi_mem (g1 a ha) (h2 a ha) (h3 a ha)
  · refine pc_same (g2 a ha) (fun i => ⟨hk a (by omega) i, fun _ => ?_⟩) (hk (a + 4) (by omega)) (fun _ q hq => Or.inl hq)
    rw [gx_up]
    by_cases e : i = j
    · subst e; rw [fm_upS]; exact h5 a ha
    · rw [fm_upN e]
  · have := hk a ha i
    have h9 : kn ((va_up m j r i).2.1 a) = kn ((m i).2.1 a) := this
    rw [h9]
    exact g3.2 a ha hL i
theorem gi_row (h : gI N g I m c s ms C L) {j k : Nat} {r : am_T} (hk : k < 8) (h1 : ∀ a, a ≠ k → ro a r = ro a (m j)) (h2 : pr_R k (N k) (g k) (I k) (C k) (fun d => kn (gi_x k s d).2.1) j 0 (ro k r)) (h3 : pr_L (ro k (c j)) (ro k r)) (h4 : kn (r.2.1 k) = kn ((m j).2.1 k)) (h5 : (r.2.2.2.2.1 k).1 7 ≠ 0 ↔ ((m j).2.2.2.2.1 k).1 7 ≠ 0) : gI N g I (va_up m j r) c s ms C L := by
  refine gi_all h (fun a ha => ?_) (fun a ha => ?_) (fun a ha => ?_) (fun a ha => ?_)
  · by_cases e : a = k
    · rw [e]; exact h2
    · rw [h1 a e]; exact ((h.1 a ha).2.1 j).1
  · by_cases e : a = k
    · rw [e]; exact h3
    · rw [h1 a e]; exact ((h.1 a ha).2.2.1 j).2
  · by_cases e : a = k
    · rw [e]; exact h4
    · exact congrArg (fun q : rw_T => kn q.2.1) (h1 a e)
  · by_cases e : a = k
    · rw [e]; exact h5
    · have := congrArg (fun q : rw_T => q.2.2.2.2.1.1 7) (h1 a e)
      have this : (r.2.2.2.2.1 a).1 7 = ((m j).2.2.2.2.1 a).1 7 := this
      rw [this]
theorem gi_born (h : gI N g I m c s ms C L) {j k : Nat} {r : am_T} {A : ag_T} (hj : j < 4) (hk : k < 4) (h1 : ∀ a, a ≠ k → a ≠ k + 4 → ro a r = ro a (m j)) (h2 : pr_R k (N k) (g k) (I k) (C k) (fun d => kn (gi_x k s d).2.1) j 0 (ro k r)) (h3 : pr_L (ro k (c j)) (ro k r)) (h4 : kn (r.2.1 k) = kn ((m j).2.1 k)) (hS : (m j).1 k = 1) (h7 : ((m j).2.2.2.2.1 k).1 7 = 0) (h8 : (r.2.2.2.2.1 k).1 7 ≠ 0) (hA : ag_wf (k + 4) A) (hA4 : A.1 4 = 0) (hA5 : A.1 5 = 0) (hr : ro (k + 4) r = (1, 0, -1, (m j).2.2.2.1 (k + 4), A, (m j).2.2.2.2.2.1 (k + 4), (m j).2.2.2.2.2.2.2 (k + 4))) : gI (va_up N (k + 4) 0) (va_up g (k + 4) j) (va_up I (k + 4) A) (va_up m j r) c s ms C L := by
  obtain ⟨g1, g2, g3, g4⟩ := h
  have hR : pr_R k (N k) (g k) (I k) (C k) (fun d => kn (gi_x k s d).2.1) j 0 (ro k (m j)) := ((g1 k (by omega)).2.1 j).1
  have hx : gi_x k m j = ro k (m j) := rfl
  have hlive : kn ((m j).2.1 k) = N k + 1 ∧ j = g k := by
    have q := hR
    unfold ro at q
    obtain ⟨q1, q2, q3⟩ := q.2.2.1 (Or.inl hS)
    exact ⟨q1, q3⟩
  obtain ⟨f1, f2⟩ := pc_free (g2 k hk) (j := j) hlive.2 (by rw [hx]; exact hlive.1) (by rw [hx]; exact h7)
  have k1 : kn (0 : Int32) = 1 := by decide
  refine ⟨fun a ha => ?_, fun a ha => ?_, ⟨g3.1, fun a ha hL i => ?_⟩, g4⟩
  · by_cases e : a = k + 4
    · subst e
      rw [fm_upS, fm_upS, fm_upS, gx_up, hr]
      exact pi_new (g1 (k + 4) ha) f1 f2 hj hA hA4 hA5 (S := (m j).1 (k + 4)) (K := (m j).2.1 (k + 4)) (O := (m j).2.2.1 (k + 4)) (G := (m j).2.2.2.2.1 (k + 4)) rfl
    · rw [fm_upN e, fm_upN e, fm_upN e]
      by_cases e2 : a = k
      · subst e2
        rw [gx_up]
        exact pi_mem (g1 a ha) h2 h3
      · rw [gx_same (h1 a e2 e)]
        exact g1 a ha
  · rw [fm_upN (show a ≠ k + 4 by omega), fm_upN (show a ≠ k + 4 by omega), fm_upN (show a ≠ k + 4 by omega)]
    by_cases e2 : a = k
    · subst e2
      rw [gx_up, gx_up]
      refine pc_birth (g2 a ha) hlive.2 (by rw [hx]; exact hlive.1) (by rw [hx]; exact h7) (h4.trans hlive.1) h8 ?_
      rw [hr]
      show kn (0 : Int32) ≠ 0
      omega
    · rw [gx_same (h1 a e2 (by omega)), gx_same (h1 (a + 4) (by omega) (by omega))]
      exact g2 a ha
  · have hne : a ≠ k ∧ a ≠ k + 4 := by
      have h9 := hlive.1
      refine ⟨fun e => ?_, fun e => ?_⟩
      · subst e
        have := g3.2 a ha hL j
        omega
      · subst e
        have := g3.2 k (by omega) (by omega) j
        omega
    have h9 := congrFun (gx_same (m := m) (j := j) (h1 a hne.1 hne.2)) i
    have h9 : ro a (va_up m j r i) = ro a (m i) := h9
    have h10 : kn ((va_up m j r i).2.1 a) = kn ((m i).2.1 a) := congrArg (fun q : rw_T => kn q.2.1) h9
    rw [h10]
    exact g3.2 a ha hL i
end GLO
