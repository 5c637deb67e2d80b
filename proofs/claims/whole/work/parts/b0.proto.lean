/-! THE PROTOCOL, agent by agent: what holds of its rows in memories (0), copies (1) and sealed copies (2), and of its messages -/
def kI : Nat → Int32
  | 0 => -1
  | k + 1 => nI k
def kn (v : Int32) : Nat := (v.toInt + 1).toNat
theorem kn_m1 : kn (-1) = 0 := by decide
theorem kn_nI {k : Nat} (h : k < 2 ^ 30) : kn (nI k) = k + 1 := by
  unfold kn
  rw [nI_int h]
  omega
theorem kn_kI {k : Nat} (h : k ≤ 1000) : kn (kI k) = k := by
  cases k with
  | zero => exact kn_m1
  | succ k => exact kn_nI (by omega)
theorem kI_lt {k n : Nat} (h : k ≤ 1000) (hn : n ≤ 1000) : kI k < nI n ↔ k ≤ n := by
  cases k with
  | zero =>
    constructor
    · intro _; omega
    · intro _
      show (-1 : Int32) < nI n
      rw [Int32.lt_iff_toInt_lt, nI_int (by omega)]
      have e : (-1 : Int32).toInt = -1 := by decide
      omega
  | succ k =>
    show nI k < nI n ↔ _
    rw [Int32.lt_iff_toInt_lt, nI_int (by omega), nI_int (by omega)]
    omega
theorem kn_0 {K : Int32} (h : kI (kn K) = K) (g : kn K = 0) : K = -1 := by
  rw [g] at h
  exact h.symm
abbrev rw_T : Type := Nat × Int32 × Int32 × Int32 × ag_T × Int32 × Nat
def ro (a : Nat) (m : am_T) : rw_T := (m.1 a, m.2.1 a, m.2.2.1 a, m.2.2.2.1 a, m.2.2.2.2.1 a, m.2.2.2.2.2.1 a, m.2.2.2.2.2.2.2 a)
def bt (H : Int32) (i : Nat) : Bool := H.toBitVec.getLsbD i
theorem bt_H {H : Int32} {D : Nat} (hD : D ≤ 16) (h : ∀ i, bt H i = true → i < D) : bw_H H (bt H) := fun i hi => by
  show H.toBitVec.getLsbD i = (decide (i < 16) && H.toBitVec.getLsbD i)
  by_cases g : i < 16
  · simp [g]
  · cases e : H.toBitVec.getLsbD i with
    | false => simp
    | true =>
      have := h i e
      omega
theorem bt_or {H : Int32} {s i : Nat} (hs : s < 16) : bt (H ||| (nI 1 <<< (nI s &&& 31))) i = (bt H i || decide (i = s)) := by
  show (H.toBitVec ||| (nI 1 <<< (nI s &&& 31)).toBitVec).getLsbD i = (H.toBitVec.getLsbD i || decide (i = s))
  rw [BitVec.getLsbD_or]
  by_cases hi : i < 32
  · rw [bw_one s hs i hi]
  · rw [BitVec.getLsbD_of_ge (nI 1 <<< (nI s &&& 31)).toBitVec i (by omega)]
    have : ¬ i = s := by omega
    simp [this]
/-- a row of agent a, k the number of hops it knows and one more; N hops are sealed, the last one to host g with the image I; Ca outputs are released; sk d is what the sealed copy of d knows -/
def pr_C (a N g : Nat) (I : ag_T) (Ca : Nat) (sk : Nat → Nat) (h lv S k : Nat) (O T : Int32) (G : ag_T) (H : Int32) (D : Nat) : Prop :=
  (S ≤ 4 ∧ (S ≠ 0 → ag_wf a G ∧ 1 ≤ k) ∧ (O = -1 ∨ (1 ≤ k ∧ ∃ d, d < 4 ∧ O = nI d)) ∧ k ≤ N + 1) ∧
  (S = 1 ∨ S = 3 ∨ S = 4 → k = N + 1 ∧ G.1 4 = N ∧ h = g) ∧
  (S = 2 → G.1 4 = k ∧ ∃ d, d < 4 ∧ T = nI d ∧ ((k = N + 1 ∧ h = g ∧ lv ≠ 2) ∨ (k = N ∧ d = g ∧ G = I) ∨ (k < N ∧ k < sk d))) ∧
  (k = N + 1 → S ≠ 0 ∧ I.1 5 ≤ G.1 5 ∧ D ≤ G.1 5 ∧ (∀ i, i < G.1 5 → bt H i = true ∨ i < Ca)) ∧
  (k ≤ N → D ≤ I.1 5) ∧ (k = 0 → D = 0) ∧
  (D ≤ 16 ∧ (∀ i, bt H i = true → i < D) ∧ (∀ i, i < D → bt H i = true ∨ i < Ca))
def pr_R (a N g : Nat) (I : ag_T) (Ca : Nat) (sk : Nat → Nat) (h lv : Nat) : rw_T → Prop := fun (S, K, O, T, G, H, D) => kI (kn K) = K ∧ pr_C a N g I Ca sk h lv S (kn K) O T G H D
/-- the second row comes from the first -/
def pr_L : rw_T → rw_T → Prop := fun (S, K, _, T, G, _, _) (S', K', _, T', G', _, _) => kn K ≤ kn K' ∧ (kn K = kn K' → (S = 0 → S' = 0) ∧ (S = 2 → S' = 0 ∨ (S' = 2 ∧ T' = T ∧ G' = G)))
theorem prL_rf (r : rw_T) : pr_L r r := by
  obtain ⟨S, K, O, T, G, H, D⟩ := r
  exact ⟨Nat.le_refl _, fun _ => ⟨fun e => e, fun e => Or.inr ⟨e, rfl, rfl⟩⟩⟩
theorem prL_tr {r s t : rw_T} (h : pr_L r s) (g : pr_L s t) : pr_L r t := by
  obtain ⟨S, K, O, T, G, H, D⟩ := r
  obtain ⟨S1, K1, O1, T1, G1, H1, D1⟩ := s
  obtain ⟨S2, K2, O2, T2, G2, H2, D2⟩ := t
  obtain ⟨h1, h2⟩ := h
  obtain ⟨g1, g2⟩ := g
  refine ⟨Nat.le_trans h1 g1, fun e => ?_⟩
  obtain ⟨a1, a2⟩ := h2 (by omega)
  obtain ⟨b1, b2⟩ := g2 (by omega)
  refine ⟨fun q => b1 (a1 q), fun q => ?_⟩
  rcases a2 q with c | ⟨c1, c2, c3⟩
  · exact Or.inl (b1 c)
  · rcases b2 c1 with d | ⟨d1, d2, d3⟩
    · exact Or.inl d
    · exact Or.inr ⟨d1, d2.trans c2, d3.trans c3⟩
def pr_G (a N g : Nat) (I : ag_T) (sk : Nat → Nat) (q : mg_T) : Prop := q.2.1 = a → (q.1 = 1 ∧ ∃ n, n ≤ N ∧ q.2.2.1 = nI n) ∨ (q.1 = 0 ∧ ∃ A d, ag_wf a A ∧ q.2.2.2.2.2 = im_B A ∧ q.2.2.1 = nI (A.1 4) ∧ d < 4 ∧ q.2.2.2.2.1 = nI d ∧ A.1 4 ≤ N ∧ (A.1 4 = N → d = g ∧ A = I) ∧ (A.1 4 < N → A.1 4 < sk d))
def pr_I (a N g : Nat) (I : ag_T) (Ca : Nat) (x y z : Nat → rw_T) (ms : List mg_T) : Prop :=
  (N ≤ 200 ∧ g < 4 ∧ I.1 5 ≤ Ca) ∧ (∀ h, pr_R a N g I Ca (fun d => kn (z d).2.1) h 0 (x h) ∧ pr_R a N g I Ca (fun d => kn (z d).2.1) h 1 (y h) ∧ pr_R a N g I Ca (fun d => kn (z d).2.1) h 2 (z h)) ∧ (∀ h, pr_L (z h) (y h) ∧ pr_L (y h) (x h)) ∧ ∀ q ∈ ms, pr_G a N g I (fun d => kn (z d).2.1) q
theorem prR_mono {a N g : Nat} {I : ag_T} {Ca Cb : Nat} {sk sl : Nat → Nat} {h lv : Nat} {r : rw_T} (hC : Ca ≤ Cb) (hs : ∀ d, sk d ≤ sl d) (hr : pr_R a N g I Ca sk h lv r) : pr_R a N g I Cb sl h lv r := by
  obtain ⟨S, K, O, T, G, H, D⟩ := r
  obtain ⟨k0, c1, c2, c3, c4, c5, c6, c7, c8, c9⟩ := hr
  refine ⟨k0, c1, c2, fun e => ?_, fun e => ?_, c5, c6, c7, c8, fun i hi => ?_⟩
  · obtain ⟨q1, d, q2, q3, q4⟩ := c3 e
    refine ⟨q1, d, q2, q3, ?_⟩
    rcases q4 with q | q | ⟨q, p⟩
    · exact Or.inl q
    · exact Or.inr (Or.inl q)
    · exact Or.inr (Or.inr ⟨q, Nat.lt_of_lt_of_le p (hs d)⟩)
  · obtain ⟨q1, q2, q3, q4⟩ := c4 e
    exact ⟨q1, q2, q3, fun i hi => (q4 i hi).imp id (fun q => Nat.lt_of_lt_of_le q hC)⟩
  · exact (c9 i hi).imp id (fun q => Nat.lt_of_lt_of_le q hC)
theorem prG_mono {a N g : Nat} {I : ag_T} {sk sl : Nat → Nat} {q : mg_T} (hs : ∀ d, sk d ≤ sl d) (hq : pr_G a N g I sk q) : pr_G a N g I sl q := fun e => by
  rcases hq e with h | ⟨h1, A, d, h2, h3, h4, h5, h6, h7, h8, h9⟩
  · exact Or.inl h
  · exact Or.inr ⟨h1, A, d, h2, h3, h4, h5, h6, h7, h8, fun g => Nat.lt_of_lt_of_le (h9 g) (hs d)⟩
/-- the level matters for what is sealed alone -/
theorem prR_lv {a N g : Nat} {I : ag_T} {Ca : Nat} {sk : Nat → Nat} {h lv lw : Nat} {r : rw_T} (hl : lw ≠ 2) (hr : pr_R a N g I Ca sk h lv r) : pr_R a N g I Ca sk h lw r := by
  obtain ⟨S, K, O, T, G, H, D⟩ := r
  obtain ⟨k0, c1, c2, c3, c4⟩ := hr
  refine ⟨k0, c1, c2, fun e => ?_, c4⟩
  obtain ⟨q1, d, q2, q3, q4⟩ := c3 e
  refine ⟨q1, d, q2, q3, ?_⟩
  rcases q4 with ⟨q, p, _⟩ | q | q
  · exact Or.inl ⟨q, p, hl⟩
  · exact Or.inr (Or.inl q)
  · exact Or.inr (Or.inr q)
theorem prR_O {a N g : Nat} {I : ag_T} {Ca : Nat} {sk : Nat → Nat} {h lv S D : Nat} {K O O' T H : Int32} {G : ag_T} (ho : O' = O ∨ O' = -1) (hr : pr_R a N g I Ca sk h lv (S, K, O, T, G, H, D)) : pr_R a N g I Ca sk h lv (S, K, O', T, G, H, D) := by
  obtain ⟨k0, ⟨c1, c2, c3, c4⟩, c5⟩ := hr
  refine ⟨k0, ⟨c1, c2, ?_, c4⟩, c5⟩
  rcases ho with e | e
  · rw [e]; exact c3
  · exact Or.inl e
/-- one instruction of the agent that runs -/
theorem prR_step {a N g : Nat} {I : ag_T} {Ca : Nat} {sk : Nat → Nat} {h lv S' D' : Nat} {K O T T' H H' : Int32} {G P : ag_T} {D : Nat} (hr : pr_R a N g I Ca sk h lv (1, K, O, T, G, H, D)) (hl : lv ≠ 2) (hw : ag_wf a P) (hS : ((S' = 1 ∨ S' = 3 ∨ S' = 4) ∧ P.1 4 = G.1 4) ∨ (S' = 2 ∧ P.1 4 = G.1 4 + 1 ∧ ∃ d, d < 4 ∧ T' = nI d)) (hd : (P.1 5 = G.1 5 ∧ H' = H ∧ D' = D) ∨ (P.1 5 = G.1 5 + 1 ∧ G.1 5 < 16 ∧ H' = (H ||| (nI 1 <<< (nI (G.1 5) &&& 31))) ∧ D' = G.1 5 + 1)) : pr_R a N g I Ca sk h lv (S', K, O, T', P, H', D') := by
  obtain ⟨k0, ⟨c1, c2, c3, c4⟩, c5, c6, c7, c8, c9, c10, c11, c12⟩ := hr
  obtain ⟨r1, r2, r3⟩ := c5 (Or.inl rfl)
  obtain ⟨l1, l2, l3, l4⟩ := c7 r1
  have hS4 : S' ≤ 4 := by omega
  have hS0 : S' ≠ 0 := by omega
  refine ⟨k0, ⟨hS4, fun _ => ⟨hw, by omega⟩, c3, c4⟩, fun e => ?_, fun e => ?_, fun _ => ?_, fun e => ?_, fun e => ?_, ?_⟩
  · rcases hS with ⟨_, q⟩ | ⟨q, _⟩
    · exact ⟨r1, by omega, r3⟩
    · omega
  · rcases hS with ⟨q, _⟩ | ⟨_, q, d, d4, dt⟩
    · omega
    · exact ⟨by omega, d, d4, dt, Or.inl ⟨r1, r3, hl⟩⟩
  · rcases hd with ⟨e1, e2, e3⟩ | ⟨e1, e2, e3, e4⟩
    · subst e2 e3
      exact ⟨hS0, by omega, by omega, fun i hi => l4 i (by omega)⟩
    · subst e3 e4
      refine ⟨hS0, by omega, by omega, fun i hi => ?_⟩
      rw [bt_or e2]
      by_cases g2 : i = G.1 5
      · left; simp [g2]
      · rcases l4 i (by omega) with q | q
        · left; simp [q]
        · right; exact q
  · omega
  · omega
  · rcases hd with ⟨e1, e2, e3⟩ | ⟨e1, e2, e3, e4⟩
    · subst e2 e3
      exact ⟨c10, c11, c12⟩
    · subst e3 e4
      refine ⟨by omega, fun i hi => ?_, fun i hi => ?_⟩
      · rw [bt_or e2] at hi
        by_cases g2 : i = G.1 5
        · omega
        · have := c11 i (by simpa [g2] using hi)
          omega
      · rw [bt_or e2]
        by_cases g2 : i = G.1 5
        · left; simp [g2]
        · rcases l4 i (by omega) with q | q
          · left; simp [q]
          · right; exact q
/-- what came from something of less hops, or from what neither was empty nor was leaving -/
theorem prL_on {r : rw_T} {S S' D D' : Nat} {K O O' T T' H H' : Int32} {G G' : ag_T} (h : pr_L r (S, K, O, T, G, H, D)) (h1 : S = 1) : pr_L r (S', K, O', T', G', H', D') := by
  obtain ⟨S0, K0, O0, T0, G0, H0, D0⟩ := r
  obtain ⟨a1, a2⟩ := h
  refine ⟨a1, fun e => ?_⟩
  obtain ⟨b1, b2⟩ := a2 e
  refine ⟨fun q => ?_, fun q => ?_⟩
  · have := b1 q; omega
  · rcases b2 q with c | ⟨c, _⟩ <;> omega
theorem prL_up {r : rw_T} {S S' D D' : Nat} {K K' O O' T T' H H' : Int32} {G G' : ag_T} (h : pr_L r (S, K, O, T, G, H, D)) (hk : kn K < kn K') : pr_L r (S', K', O', T', G', H', D') := by
  obtain ⟨S0, K0, O0, T0, G0, H0, D0⟩ := r
  obtain ⟨a1, a2⟩ := h
  exact ⟨by omega, fun e => by omega⟩
theorem prL_e {r : rw_T} {S D : Nat} {K O T H : Int32} {G : ag_T} (h : pr_L r (S, K, O, T, G, H, D)) : pr_L r (0, K, O, T, G, H, D) := by
  obtain ⟨S0, K0, O0, T0, G0, H0, D0⟩ := r
  exact ⟨h.1, fun e => ⟨fun _ => rfl, fun _ => Or.inl rfl⟩⟩
theorem prL_O {r : rw_T} {S D : Nat} {K O O' T H : Int32} {G : ag_T} (h : pr_L r (S, K, O, T, G, H, D)) : pr_L r (S, K, O', T, G, H, D) := by
  obtain ⟨S0, K0, O0, T0, G0, H0, D0⟩ := r
  exact h
/-- a hop is sealed -/
theorem prR_commit {a N g g' : Nat} {I I' : ag_T} {Ca Cb : Nat} {sk sl : Nat → Nat} {h lv lw S D : Nat} {K O T H : Int32} {G : ag_T} (hr : pr_R a N g I Ca sk h lv (S, K, O, T, G, H, D)) (hS : ¬ (S = 1 ∨ S = 3 ∨ S = 4)) (hN : kn K = N + 1 → G = I' ∧ T = nI g') (g4 : g' < 4) (hg : N < sl g) (hI : I.1 5 ≤ I'.1 5) (hC : Ca ≤ Cb) (hs : ∀ d, sk d ≤ sl d) : pr_R a (N + 1) g' I' Cb sl h lw (S, K, O, T, G, H, D) := by
  obtain ⟨k0, ⟨c1, c2, c3, c4⟩, c5, c6, c7, c8, c9, c10, c11, c12⟩ := hr
  refine ⟨k0, ⟨c1, c2, c3, by omega⟩, fun e => absurd e hS, fun e => ?_, fun e => by omega, fun e => ?_, c9, c10, c11, fun i hi => (c12 i hi).imp id (fun q => Nat.lt_of_lt_of_le q hC)⟩
  · obtain ⟨q1, d, q2, q3, q4⟩ := c6 e
    refine ⟨q1, ?_⟩
    rcases q4 with ⟨q, _, _⟩ | ⟨q, p, r⟩ | ⟨q, p⟩
    · exact ⟨g', g4, (hN q).2, Or.inr (Or.inl ⟨q, rfl, (hN q).1⟩)⟩
    · exact ⟨d, q2, q3, Or.inr (Or.inr ⟨by omega, by rw [q, p]; exact hg⟩)⟩
    · exact ⟨d, q2, q3, Or.inr (Or.inr ⟨by omega, Nat.lt_of_lt_of_le p (hs d)⟩)⟩
  · by_cases e1 : kn K = N + 1
    · have := (c7 e1).2.2.1
      rw [(hN e1).1] at this
      exact this
    · have := c8 (by omega)
      omega
theorem prG_commit {a N g g' : Nat} {I I' : ag_T} {sk sl : Nat → Nat} {q : mg_T} (hg : N < sl g) (hs : ∀ d, sk d ≤ sl d) (hq : pr_G a N g I sk q) : pr_G a (N + 1) g' I' sl q := fun e => by
  rcases hq e with ⟨h, n, h1, h2⟩ | ⟨h1, A, d, h2, h3, h4, h5, h6, h7, h8, h9⟩
  · exact Or.inl ⟨h, n, by omega, h2⟩
  · refine Or.inr ⟨h1, A, d, h2, h3, h4, h5, h6, by omega, fun g => by omega, fun _ => ?_⟩
    by_cases e1 : A.1 4 = N
    · rw [e1, (h8 e1).1]; exact hg
    · exact Nat.lt_of_lt_of_le (h9 (by omega)) (hs d)
