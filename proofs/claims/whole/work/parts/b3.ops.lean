/-! ALL AGENTS: what each call keeps -/
section GLP
variable {N g : Nat → Nat} {I : Nat → ag_T} {m c s : Nat → am_T} {ms : List mg_T} {C : Nat → Nat} {L : Nat}
theorem gi_one (h : gI N g I m c s ms C L) {j k : Nat} {sc : Nat → List Nat} {tbl : Nat → Int32} (hj : j < 4) (hk : k < 8) (hsb : ∀ q, q < 4 → ∀ i v : Nat, (sc q)[i]? = some v → v < 256) (hsl : ∀ q, q < 4 → (sc q).length ≤ 48) (hS : (m j).1 k = 1) (hf : 1 ≤ ((m j).2.2.2.2.1 k).1 3) : GI (va_up m j (am_one sc tbl j k (m j))) c s ms C L := by
  have hR : pr_R k (N k) (g k) (I k) (C k) (fun d => kn (gi_x k s d).2.1) j 0 (ro k (m j)) := ((h.1 k hk).2.1 j).1
  have hLc : pr_L (ro k (c j)) (ro k (m j)) := ((h.1 k hk).2.2.1 j).2
  rcases hm : m j with ⟨S, K, O, T, G, H, V, D⟩
  rw [hm] at hS hf hR hLc
  have hS : S k = 1 := hS
  have hf : 1 ≤ (G k).1 3 := hf
  have hR : pr_R k (N k) (g k) (I k) (C k) (fun d => kn (gi_x k s d).2.1) j 0 (S k, K k, O k, T k, G k, H k, D k) := hR
  have hLc : pr_L (ro k (c j)) (S k, K k, O k, T k, G k, H k, D k) := hLc
  rw [hS] at hR
  have wk : ag_wf k (G k) := (hR.2.1.2.1 (by decide)).1
  have hp := wk.2.2.2.1
  have sw := step_wf (he := j) (tbl := tbl) wk hf (hsb _ hp) (hsl _ hp)
  have kw := kid_wf (he := j) (tbl := tbl) wk hf (hsb _ hp) (hsl _ hp)
  have k7 := kid_eq (sc := sc ((G k).1 1)) (tbl := tbl) (he := j) (A := G k)
  show GI (va_up m j (am_turn k ((G k).1 5) (ag_kidOf (G k) (ag_step (sc ((G k).1 1)) tbl j (G k)).2.1.toInt.toNat) (ag_step (sc ((G k).1 1)) tbl j (G k)) (S, K, O, T, G, H, V, D))) c s ms C L
  generalize ag_step (sc ((G k).1 1)) tbl j (G k) = st at sw kw k7 ⊢
  obtain ⟨ak, av, P⟩ := st
  obtain ⟨s1, s2, s3, s4, s5, s6, s7⟩ := sw
  have s2 : ak ≤ 5 := s2
  have s1 : ag_wf k P := s1
  have s3 : P.1 5 = if ak = 1 then (G k).1 5 + 1 else (G k).1 5 := s3
  have s4 : P.1 4 = if ak = 2 then (G k).1 4 + 1 else (G k).1 4 := s4
  have s6 : P.1 7 = if ak = 3 then 1 else (G k).1 7 := s6
  have mj : m j = (S, K, O, T, G, H, V, D) := hm
  have other : ∀ (S' : Nat → Nat) (T' : Nat → Int32) (H' : Nat → Int32) (V' : Nat → Nat → Int32) (D' : Nat → Nat), (∀ a, a ≠ k → S' a = S a) → (∀ a, a ≠ k → T' a = T a) → (∀ a, a ≠ k → H' a = H a) → (∀ a, a ≠ k → D' a = D a) → ∀ a, a ≠ k → ro a (S', K, O, T', va_up G k P, H', V', D') = ro a (m j) := by
    intro S' T' H' V' D' e1 e2 e3 e4 a ha
    rw [mj]
    show (S' a, K a, O a, T' a, va_up G k P a, H' a, D' a) = (S a, K a, O a, T a, G a, H a, D a)
    rw [e1 a ha, e2 a ha, e3 a ha, e4 a ha, fm_upN ha]
  have upd : ∀ {α : Type} (f : Nat → α) (v : α), ∀ a, a ≠ k → va_up f k v a = f a := fun f v a ha => fm_upN ha
  have same : ∀ {α : Type} (f : Nat → α), ∀ a, a ≠ k → f a = f a := fun f a _ => rfl
  have fin : ∀ (S' : Nat → Nat) (T' : Nat → Int32) (H' : Nat → Int32) (V' : Nat → Nat → Int32) (D' : Nat → Nat), (∀ a, a ≠ k → S' a = S a) → (∀ a, a ≠ k → T' a = T a) → (∀ a, a ≠ k → H' a = H a) → (∀ a, a ≠ k → D' a = D a) → ak ≠ 3 → pr_R k (N k) (g k) (I k) (C k) (fun d => kn (gi_x k s d).2.1) j 0 (S' k, K k, O k, T' k, P, H' k, D' k) → GI (va_up m j (S', K, O, T', va_up G k P, H', V', D')) c s ms C L := by
    intro S' T' H' V' D' e1 e2 e3 e4 e5 hr
    have hro : ro k (S', K, O, T', va_up G k P, H', V', D') = (S' k, K k, O k, T' k, P, H' k, D' k) := by
      show (S' k, K k, O k, T' k, va_up G k P k, H' k, D' k) = _
      rw [fm_upS]
    refine ⟨N, g, I, gi_row h hk (other S' T' H' V' D' e1 e2 e3 e4) (by rw [hro]; exact hr) (by rw [hro]; exact prL_on hLc hS) (by rw [mj]) ?_⟩
    show (va_up G k P k).1 7 ≠ 0 ↔ _
    rw [fm_upS, mj, s6, if_neg e5]
  rcases (show ak = 0 ∨ ak = 1 ∨ ak = 2 ∨ ak = 3 ∨ ak = 4 ∨ ak = 5 by omega) with rfl | rfl | rfl | rfl | rfl | rfl
  · rw [if_neg (by decide)] at s3 s4
    refine fin S T H V D (same S) (same T) (same H) (same D) (by decide) ?_
    rw [hS]
    exact prR_step hR (by decide) s1 (Or.inl ⟨Or.inl rfl, s4⟩) (Or.inl ⟨s3, rfl, rfl⟩)
  · rw [if_neg (by decide)] at s4
    rw [if_pos rfl] at s3
    have s16 : P.1 5 ≤ 16 := s1.2.2.2.2.2.2.1
    refine fin S T (va_up H k (H k ||| (nI 1 <<< (nI ((G k).1 5) &&& 31)))) _ (va_up D k ((G k).1 5 + 1)) (same S) (same T) (upd H _) (upd D _) (by decide) ?_
    rw [hS, fm_upS, fm_upS]
    exact prR_step hR (by decide) s1 (Or.inl ⟨Or.inl rfl, s4⟩) (Or.inr ⟨s3, by omega, rfl, rfl⟩)
  · rw [if_pos rfl] at s4
    rw [if_neg (by decide)] at s3
    obtain ⟨d, d4, -, de⟩ := s7 rfl
    refine fin (va_up S k 2) (va_up T k av) H V D (upd S _) (upd T _) (same H) (same D) (by decide) ?_
    rw [fm_upS, fm_upS]
    exact prR_step hR (by decide) s1 (Or.inr ⟨rfl, s4, d, d4, de⟩) (Or.inl ⟨s3, rfl, rfl⟩)
  · rw [if_neg (by decide)] at s3 s4
    rw [if_pos rfl] at s6
    obtain ⟨k4, c7, kwf⟩ := kw rfl
    have e3 : k ≠ k + 4 := by omega
    refine ⟨_, _, _, gi_born h (j := j) (k := k) (r := (va_up S (k + 4) 1, va_up K (k + 4) 0, va_up O (k + 4) (-1), T, va_up (va_up G k P) (k + 4) (ag_kidOf (G k) av.toInt.toNat), H, V, D)) (A := ag_kidOf (G k) av.toInt.toNat) hj k4 (fun a a1 a2 => ?_) ?_ ?_ ?_ (by rw [mj]; exact hS) (by rw [mj]; exact c7) ?_ kwf ?_ kid_1.2.1 ?_⟩
    · rw [mj]
      show (va_up S (k + 4) 1 a, va_up K (k + 4) 0 a, va_up O (k + 4) (-1) a, T a, va_up (va_up G k P) (k + 4) (ag_kidOf (G k) av.toInt.toNat) a, H a, D a) = (S a, K a, O a, T a, G a, H a, D a)
      rw [fm_upN a2, fm_upN a2, fm_upN a2, fm_upN a2, fm_upN a1]
    · show pr_R k (N k) (g k) (I k) (C k) (fun d => kn (gi_x k s d).2.1) j 0 (va_up S (k + 4) 1 k, va_up K (k + 4) 0 k, va_up O (k + 4) (-1) k, T k, va_up (va_up G k P) (k + 4) (ag_kidOf (G k) av.toInt.toNat) k, H k, D k)
      rw [fm_upN e3, fm_upN e3, fm_upN e3, fm_upN e3, fm_upS, hS]
      exact prR_step hR (by decide) s1 (Or.inl ⟨Or.inl rfl, s4⟩) (Or.inl ⟨s3, rfl, rfl⟩)
    · show pr_L (ro k (c j)) (va_up S (k + 4) 1 k, va_up K (k + 4) 0 k, va_up O (k + 4) (-1) k, T k, va_up (va_up G k P) (k + 4) (ag_kidOf (G k) av.toInt.toNat) k, H k, D k)
      rw [fm_upN e3, fm_upN e3, fm_upN e3, fm_upN e3, fm_upS]
      exact prL_on hLc hS
    · rw [mj]
      show kn (va_up K (k + 4) 0 k) = kn (K k)
      rw [fm_upN e3]
    · show (va_up (va_up G k P) (k + 4) (ag_kidOf (G k) av.toInt.toNat) k).1 7 ≠ 0
      rw [fm_upN e3, fm_upS, s6]
      decide
    · show (ag_kid (va_up (va_up (G k).1 3 ((G k).1 3 - 1)) 2 ((G k).1 2 + 1), (G k).2.1.take ((G k).2.1.length - 1), (G k).2.2) av.toInt.toNat).1 4 = 0
      simp [ag_kid, va_up]
    · rw [mj]
      show (va_up S (k + 4) 1 (k + 4), va_up K (k + 4) 0 (k + 4), va_up O (k + 4) (-1) (k + 4), T (k + 4), va_up (va_up G k P) (k + 4) (ag_kidOf (G k) av.toInt.toNat) (k + 4), H (k + 4), D (k + 4)) = _
      rw [fm_upS, fm_upS, fm_upS, fm_upS]
  · rw [if_neg (by decide)] at s3 s4
    refine fin (va_up S k 3) T H V D (upd S _) (same T) (same H) (same D) (by decide) ?_
    rw [fm_upS]
    exact prR_step hR (by decide) s1 (Or.inl ⟨Or.inr (Or.inl rfl), s4⟩) (Or.inl ⟨s3, rfl, rfl⟩)
  · rw [if_neg (by decide)] at s3 s4
    refine fin (va_up S k 4) T H V D (upd S _) (same T) (same H) (same D) (by decide) ?_
    rw [fm_upS]
    exact prR_step hR (by decide) s1 (Or.inl ⟨Or.inr (Or.inr rfl), s4⟩) (Or.inl ⟨s3, rfl, rfl⟩)
theorem gi_run {j : Nat} {sc : Nat → List Nat} {tbl : Nat → Int32} (h : GI m c s ms C L) (hj : j < 4) (hsb : ∀ q, q < 4 → ∀ i v : Nat, (sc q)[i]? = some v → v < 256) (hsl : ∀ q, q < 4 → (sc q).length ≤ 48) : ∀ k, k ≤ 8 → GI (va_up m j (am_run sc tbl j (am_on (m j)) k (m j))) c s ms C L
  | 0, _ => by
    show GI (va_up m j (m j)) c s ms C L
    rw [va_same rfl]
    exact h
  | k + 1, hk => by
    have ih := gi_run (tbl := tbl) h hj hsb hsl k (by omega)
    have hW : am_W (m j) := by
      obtain ⟨N, g, I, q⟩ := h
      exact gi_W q j
    obtain ⟨i1, i2⟩ := amW_run (he := j) (tbl := tbl) hsb hsl hW k (by omega)
    cases ht : am_on (m j) k with
    | false =>
      rw [(run_no ht).1]
      exact ih
    | true =>
      rw [(run_yes ht).1]
      generalize am_run sc tbl j (am_on (m j)) k (m j) = m1 at ih i1 i2
      have hm : m1.1 k = 1 ∧ 1 ≤ (m1.2.2.2.2.1 k).1 3 := by
        generalize m j = m0 at ht i2
        obtain ⟨S0, K0, O0, T0, G0, H0, V0, D0⟩ := m0
        obtain ⟨S, K, O, T, G, H, V, D⟩ := m1
        have ht : (decide (S0 k = 1) && decide (1 ≤ (G0 k).1 3) && decide ((G0 k).1 6 = 0)) = true := ht
        rw [Bool.and_eq_true, Bool.and_eq_true, decide_eq_true_eq, decide_eq_true_eq, decide_eq_true_eq] at ht
        obtain ⟨e1, e2⟩ := i2.2.2.1 k (Nat.le_refl k) (by omega) ht.1.1
        refine ⟨e1, ?_⟩
        show 1 ≤ (G k).1 3
        rw [e2]
        exact ht.1.2
      obtain ⟨N, g, I, q⟩ := ih
      have r := gi_one (tbl := tbl) q (j := j) (k := k) hj (by omega) hsb hsl (by rw [fm_upS]; exact hm.1) (by rw [fm_upS]; exact hm.2)
      rw [up_up, fm_upS] at r
      exact r
theorem gi_rounds {j : Nat} {sc : Nat → List Nat} {tbl : Nat → Int32} (h : GI m c s ms C L) (hj : j < 4) (hsb : ∀ q, q < 4 → ∀ i v : Nat, (sc q)[i]? = some v → v < 256) (hsl : ∀ q, q < 4 → (sc q).length ≤ 48) : ∀ k, GI (va_up m j (am_rounds sc tbl j k (m j))) c s ms C L
  | 0 => by
    show GI (va_up m j (m j)) c s ms C L
    rw [va_same rfl]
    exact h
  | k + 1 => by
    have ih := gi_rounds (tbl := tbl) h hj hsb hsl k
    have r := gi_run (tbl := tbl) ih hj hsb hsl 8 (Nat.le_refl 8)
    rw [up_up, fm_upS] at r
    exact r
theorem gi_sub {mt : List mg_T} (h : GI m c s ms C L) (hm : ∀ q ∈ mt, q ∈ ms) : GI m c s mt C L := by
  obtain ⟨N, g, I, h1, h2, h3, h4⟩ := h
  exact ⟨N, g, I, fun a ha => pi_ms (h1 a ha) (fun q hq => Or.inl (hm q hq)), fun a ha => pc_same (h2 a ha) (fun i => ⟨rfl, fun _ => Iff.rfl⟩) (fun _ => rfl) (fun _ q hq => Or.inl (hm q hq)), h3, fun q hq => h4 q (hm q hq)⟩
theorem gi_copy (h : GI m c s ms C L) (j : Nat) : GI m (va_up c j (m j)) s ms C L := by
  obtain ⟨N, g, I, h1, h2, h3, h4⟩ := h
  refine ⟨N, g, I, fun a ha => ?_, fun a ha => ?_, h3, h4⟩
  · rw [gx_up]
    exact pi_copy (h1 a ha) j
  · rw [gx_up, gx_up]
    exact pc_copy (h2 a ha) j
theorem gi_crash (h : GI m c s ms C L) (j : Nat) : GI (va_up m j (s j)) (va_up c j (s j)) s ms C L := by
  obtain ⟨N, g, I, h1, h2, h3, h4⟩ := h
  refine ⟨N, g, I, fun a ha => ?_, fun a ha => ?_, ⟨h3.1, fun a ha hL i => ?_⟩, h4⟩
  · rw [gx_up, gx_up]
    exact pi_crash (h1 a ha) j
  · rw [gx_up, gx_up, gx_up, gx_up]
    exact pc_crash (h2 a ha) j
  · have h0 := h3.2 a ha hL i
    by_cases e : i = j
    · subst e
      rw [fm_upS]
      have e1 := prL_k ((h1 a ha).2.2.1 i).1
      have e2 := prL_k ((h1 a ha).2.2.1 i).2
      have e1 : kn ((s i).2.1 a) ≤ kn ((c i).2.1 a) := e1
      have e2 : kn ((c i).2.1 a) ≤ kn ((m i).2.1 a) := e2
      omega
    · rw [fm_upN e]; exact h0
theorem gi_launch (h : GI m c s ms C L) {j p f : Nat} (hj : j < 4) (hL : L < 4) (hp : p < 4) (hf : f ≤ 200) : GI (va_up m j (am_lau L (ag_new L p f) (m j))) c s ms C (L + 1) := by
  obtain ⟨N, g, I, h1, h2, h3, h4⟩ := h
  have other : ∀ a, a ≠ L → ro a (am_lau L (ag_new L p f) (m j)) = ro a (m j) := fun a ha => by
    rcases m j with ⟨S, K, O, T, G, H, V, D⟩
    show (va_up S L 1 a, va_up K L 0 a, va_up O L (-1) a, T a, va_up G L (ag_new L p f) a, H a, D a) = (S a, K a, O a, T a, G a, H a, D a)
    rw [fm_upN ha, fm_upN ha, fm_upN ha, fm_upN ha]
  have own : ro L (am_lau L (ag_new L p f) (m j)) = (1, 0, -1, (m j).2.2.2.1 L, ag_new L p f, (m j).2.2.2.2.2.1 L, (m j).2.2.2.2.2.2.2 L) := by
    rcases m j with ⟨S, K, O, T, G, H, V, D⟩
    show (va_up S L 1 L, va_up K L 0 L, va_up O L (-1) L, T L, va_up G L (ag_new L p f) L, H L, D L) = (1, 0, -1, T L, ag_new L p f, H L, D L)
    rw [fm_upS, fm_upS, fm_upS, fm_upS]
  have hno : ∀ q ∈ ms, q.2.1 ≠ L ∧ q.2.1 ≠ L + 4 := fun q hq => by
    have := (h4 q hq).2.2.1
    omega
  have z : ∀ a, a < 8 → L ≤ a % 4 → ∀ i, kn (gi_x a m i).2.1 = 0 ∧ kn (gi_x a c i).2.1 = 0 ∧ kn (gi_x a s i).2.1 = 0 := fun a ha hL i => by
    have e0 : kn (gi_x a m i).2.1 = 0 := h3.2 a ha hL i
    have e1 := prL_k ((h1 a ha).2.2.1 i).1
    have e2 := prL_k ((h1 a ha).2.2.1 i).2
    omega
  have n4 : (ag_new L p f).1 4 = 0 := by simp [ag_new]
  have n5 : (ag_new L p f).1 5 = 0 := by simp [ag_new]
  have n7 : (ag_new L p f).1 7 = 0 := by simp [ag_new]
  refine ⟨va_up N L 0, va_up g L j, va_up I L (ag_new L p f), fun a ha => ?_, fun a ha => ?_, ⟨by omega, fun a ha hLa i => ?_⟩, fun q hq => ?_⟩
  · by_cases e : a = L
    · subst e
      rw [fm_upS, fm_upS, fm_upS, gx_up, own]
      exact pi_new (h1 a ha) (fun i => (z a ha (by omega) i).1) (fun q hq => (hno q hq).1) hj (new_wf hp hf) n4 n5 (S := (m j).1 a) (K := (m j).2.1 a) (O := (m j).2.2.1 a) (G := (m j).2.2.2.2.1 a) rfl
    · rw [fm_upN e, fm_upN e, fm_upN e, gx_same (other a e)]
      exact h1 a ha
  · rw [gx_same (other (a + 4) (by omega))]
    by_cases e : a = L
    · subst e
      rw [fm_upS, fm_upS, fm_upS, gx_up, own]
      exact pc_new (z a (by omega) (by omega)) (z (a + 4) (by omega) (by omega)) (fun q hq => (hno q hq).2) n7 n7
    · rw [fm_upN e, fm_upN e, fm_upN e, gx_same (other a e)]
      exact h2 a ha
  · have hne : a ≠ L := by omega
    have h9 := congrFun (gx_same (m := m) (j := j) (other a hne)) i
    have h9 : ro a (va_up m j (am_lau L (ag_new L p f) (m j)) i) = ro a (m i) := h9
    have h10 : kn ((va_up m j (am_lau L (ag_new L p f) (m j)) i).2.1 a) = kn ((m i).2.1 a) := congrArg (fun q : rw_T => kn q.2.1) h9
    rw [h10]
    exact h3.2 a ha (by omega) i
  · obtain ⟨b1, b2, b3, b4⟩ := h4 q hq
    exact ⟨b1, b2, by omega, b4⟩
end GLP
