/-! THE PROTOCOL: what calls do to one agent's rows -/
section PRO
variable {a N g Ca : Nat} {I : ag_T} {x y z : Nat → rw_T} {ms : List mg_T}
theorem pi_mem (h : pr_I a N g I Ca x y z ms) {j : Nat} {r : rw_T} (hr : pr_R a N g I Ca (fun d => kn (z d).2.1) j 0 r) (hl : pr_L (y j) r) : pr_I a N g I Ca (va_up x j r) y z ms := by
  obtain ⟨h0, h1, h2, h3⟩ := h
  refine ⟨h0, fun i => ?_, fun i => ?_, h3⟩
  · by_cases e : i = j
    · subst e; rw [fm_upS]; exact ⟨hr, (h1 i).2⟩
    · rw [fm_upN e]; exact h1 i
  · by_cases e : i = j
    · subst e; rw [fm_upS]; exact ⟨(h2 i).1, hl⟩
    · rw [fm_upN e]; exact h2 i
theorem pi_ms (h : pr_I a N g I Ca x y z ms) {mt : List mg_T} (hm : ∀ q ∈ mt, q ∈ ms ∨ pr_G a N g I (fun d => kn (z d).2.1) q) : pr_I a N g I Ca x y z mt :=
  ⟨h.1, h.2.1, h.2.2.1, fun q hq => (hm q hq).elim (h.2.2.2 q) id⟩
theorem pi_copy (h : pr_I a N g I Ca x y z ms) (j : Nat) : pr_I a N g I Ca x (va_up y j (x j)) z ms := by
  obtain ⟨h0, h1, h2, h3⟩ := h
  refine ⟨h0, fun i => ?_, fun i => ?_, h3⟩
  · by_cases e : i = j
    · subst e; rw [fm_upS]; exact ⟨(h1 i).1, prR_lv (by decide) (h1 i).1, (h1 i).2.2⟩
    · rw [fm_upN e]; exact h1 i
  · by_cases e : i = j
    · subst e; rw [fm_upS]; exact ⟨prL_tr (h2 i).1 (h2 i).2, prL_rf _⟩
    · rw [fm_upN e]; exact h2 i
theorem pi_crash (h : pr_I a N g I Ca x y z ms) (j : Nat) : pr_I a N g I Ca (va_up x j (z j)) (va_up y j (z j)) z ms := by
  obtain ⟨h0, h1, h2, h3⟩ := h
  refine ⟨h0, fun i => ?_, fun i => ?_, h3⟩
  · by_cases e : i = j
    · subst e; rw [fm_upS, fm_upS]; exact ⟨prR_lv (by decide) (h1 i).2.2, prR_lv (by decide) (h1 i).2.2, (h1 i).2.2⟩
    · rw [fm_upN e, fm_upN e]; exact h1 i
  · by_cases e : i = j
    · subst e; rw [fm_upS, fm_upS]; exact ⟨prL_rf _, prL_rf _⟩
    · rw [fm_upN e, fm_upN e]; exact h2 i
theorem prL_k {r s : rw_T} (h : pr_L r s) : kn r.2.1 ≤ kn s.2.1 := by
  obtain ⟨S, K, O, T, G, H, D⟩ := r
  obtain ⟨S1, K1, O1, T1, G1, H1, D1⟩ := s
  exact h.1
theorem sk_up (h : pr_I a N g I Ca x y z ms) (j : Nat) : ∀ d, kn (z d).2.1 ≤ kn (va_up z j (y j) d).2.1 := fun d => by
  by_cases e : d = j
  · subst e; rw [fm_upS]; exact prL_k (h.2.2.1 d).1
  · rw [fm_upN e]; exact Nat.le_refl _
theorem prR_seal {sk : Nat → Nat} {h lv : Nat} {r : rw_T} (hr : pr_R a N g I Ca sk h lv r) (hn : ¬ (r.1 = 2 ∧ kn r.2.1 = N + 1)) : pr_R a N g I Ca sk h 2 r := by
  obtain ⟨S, K, O, T, G, H, D⟩ := r
  obtain ⟨k0, c1, c2, c3, c4⟩ := hr
  refine ⟨k0, c1, c2, fun e => ?_, c4⟩
  obtain ⟨q1, d, q2, q3, q4⟩ := c3 e
  refine ⟨q1, d, q2, q3, ?_⟩
  rcases q4 with ⟨q, _, _⟩ | q | q
  · exact absurd ⟨e, q⟩ hn
  · exact Or.inl ⟨q.1, q.2.1, q.2.2⟩ |>.elim (fun w => Or.inr (Or.inl w)) (fun w => Or.inr (Or.inl w))
  · exact Or.inr (Or.inr q)
theorem pi_seal0 (h : pr_I a N g I Ca x y z ms) {j Cb S D : Nat} {K O O' T H : Int32} {G : ag_T} {mt : List mg_T} (ex : x j = (S, K, O, T, G, H, D)) (ho : O' = O ∨ O' = -1) (hC : Ca ≤ Cb) (hn : ¬ ((y j).1 = 2 ∧ kn (y j).2.1 = N + 1)) (hm : ∀ q ∈ mt, q ∈ ms ∨ (q.2.1 = a → q.1 = 1 ∧ ∃ n, n ≤ N ∧ q.2.2.1 = nI n)) : pr_I a N g I Cb (va_up x j (S, K, O', T, G, H, D)) y (va_up z j (y j)) mt := by
  have hsk := sk_up h j
  obtain ⟨h0, h1, h2, h3⟩ := h
  refine ⟨⟨h0.1, h0.2.1, Nat.le_trans h0.2.2 hC⟩, fun i => ?_, fun i => ?_, fun q hq => ?_⟩
  · by_cases e : i = j
    · subst e
      rw [fm_upS, fm_upS]
      have h1x := (h1 i).1
      rw [ex] at h1x
      exact ⟨prR_mono hC hsk (prR_O ho h1x), prR_mono hC hsk (h1 i).2.1, prR_mono hC hsk (prR_seal (h1 i).2.1 hn)⟩
    · rw [fm_upN e, fm_upN e]
      exact ⟨prR_mono hC hsk (h1 i).1, prR_mono hC hsk (h1 i).2.1, prR_mono hC hsk (h1 i).2.2⟩
  · by_cases e : i = j
    · subst e
      rw [fm_upS, fm_upS]
      have h2x := (h2 i).2
      rw [ex] at h2x
      exact ⟨prL_rf _, prL_O h2x⟩
    · rw [fm_upN e, fm_upN e]
      exact h2 i
  · rcases hm q hq with e | e
    · exact prG_mono hsk (h3 q e)
    · exact fun w => Or.inl (e w)
/-- where it stands: rows of as many hops as may be are at g -/
theorem prR_at {sk : Nat → Nat} {h lv : Nat} {r : rw_T} (hr : pr_R a N g I Ca sk h lv r) (hk : kn r.2.1 = N + 1) : h = g := by
  obtain ⟨S, K, O, T, G, H, D⟩ := r
  obtain ⟨k0, ⟨c1, c2, c3, c4⟩, c5, c6, c7, c8⟩ := hr
  have hk : kn K = N + 1 := hk
  have hS := (c7 hk).1
  by_cases e : S = 2
  · obtain ⟨q1, d, q2, q3, q4⟩ := c6 e
    rcases q4 with q | q | q
    · exact q.2.1
    · omega
    · omega
  · exact (c5 (by omega)).2.2
theorem prR_le {sk : Nat → Nat} {h lv : Nat} {r : rw_T} (hr : pr_R a N g I Ca sk h lv r) : kn r.2.1 ≤ N + 1 := by
  obtain ⟨S, K, O, T, G, H, D⟩ := r
  exact hr.2.1.2.2.2
theorem pi_seal1 (h : pr_I a N g I Ca x y z ms) {j g' Cb S D D1 : Nat} {K O O' T H K1 O1 H1 : Int32} {G G1 : ag_T} {mt : List mg_T} (ex : x j = (S, K, O, T, G, H, D)) (ey : y j = (2, K1, O1, nI g', G1, H1, D1)) (g4 : g' < 4) (hk : kn K1 = N + 1) (ho : O' = O ∨ O' = -1) (hC : Ca ≤ Cb) (hD : D1 ≤ Cb) (hm : ∀ q ∈ mt, q ∈ ms ∨ (q.2.1 = a → q.1 = 1 ∧ ∃ n, n ≤ N ∧ q.2.2.1 = nI n)) : pr_I a (N + 1) g' G1 Cb (va_up x j (S, K, O', T, G, H, D)) y (va_up z j (y j)) mt ∧ S = 2 ∧ G = G1 ∧ j = g := by
  have hsk := sk_up h j
  obtain ⟨h0, h1, h2, h3⟩ := h
  have hy := (h1 j).2.1
  have hx := (h1 j).1
  have hL := (h2 j).2
  rw [ey] at hy hL
  rw [ex] at hx hL
  have hyj := hy
  obtain ⟨k0, ⟨c1, c2, c3, c4⟩, c5, c6, c7, c8, c9, c10, c11, c12⟩ := hy
  obtain ⟨l1, l2, l3, l4⟩ := c7 hk
  have hjg : j = g := prR_at hyj hk
  have w1 := (c2 (by decide)).1
  have q1 := (c6 rfl).1
  have hN : N + 1 ≤ 200 := by
    have := w1.2.2.2.2.2.1
    omega
  obtain ⟨a1, a2⟩ := hL
  have hxl := prR_le hx
  have hxk : kn K = N + 1 := by
    have : kn K ≤ N + 1 := hxl
    omega
  have hSG : S = 2 ∧ T = nI g' ∧ G = G1 := by
    rcases (a2 (by omega)).2 rfl with e | e
    · have hS := (hx.2.2.2.2.1 hxk).1
      omega
    · exact e
  have hg : N < kn (va_up z j (y j) g).2.1 := by
    rw [← hjg, fm_upS, ey]
    show N < kn K1
    omega
  have hs5 : G1.1 5 ≤ Cb := by
    by_cases e : G1.1 5 ≤ Cb
    · exact e
    · rcases l4 Cb (by omega) with q | q
      · have := c11 Cb q
        omega
      · omega
  have off : ∀ i lv lw r, i ≠ j → pr_R a N g I Ca (fun d => kn (z d).2.1) i lv r → pr_R a (N + 1) g' G1 Cb (fun d => kn (va_up z j (y j) d).2.1) i lw r := fun i lv lw r hi hr => by
    have hat : ¬ kn r.2.1 = N + 1 := fun e => hi ((prR_at hr e).trans hjg.symm)
    obtain ⟨S2, K2, O2, T2, G2, H2, D2⟩ := r
    refine prR_commit hr (fun e => ?_) (fun e => absurd e hat) g4 hg l2 hC hsk
    exact hi ((hr.2.2.1 e).2.2.trans hjg.symm)
  have onn : ∀ i lv lw S2 K2 O2 T2 G2 H2 D2, pr_R a N g I Ca (fun d => kn (z d).2.1) i lv (S2, K2, O2, T2, G2, H2, D2) → S2 = 2 → T2 = nI g' → G2 = G1 → pr_R a (N + 1) g' G1 Cb (fun d => kn (va_up z j (y j) d).2.1) i lw (S2, K2, O2, T2, G2, H2, D2) := fun i lv lw S2 K2 O2 T2 G2 H2 D2 hr e1 e2 e3 => prR_commit hr (fun e => by omega) (fun _ => ⟨e3, e2⟩) g4 hg l2 hC hsk
  have yj : ∀ lw, pr_R a (N + 1) g' G1 Cb (fun d => kn (va_up z j (y j) d).2.1) j lw (y j) := fun lw => by
    rw [ey] at onn ⊢
    exact onn j 1 lw _ _ _ _ _ _ _ hyj rfl rfl rfl
  refine ⟨⟨⟨hN, g4, hs5⟩, fun i => ?_, fun i => ?_, fun q hq => ?_⟩, hSG.1, hSG.2.2, hjg⟩
  · by_cases e : i = j
    · subst e
      refine ⟨?_, yj 1, ?_⟩
      · rw [fm_upS]
        exact onn i 0 0 _ _ _ _ _ _ _ (prR_O ho hx) hSG.1 hSG.2.1 hSG.2.2
      · have := yj 2
        rw [show va_up z i (y i) i = y i from fm_upS]
        exact this
    · rw [fm_upN e, show va_up z j (y j) i = z i from fm_upN e]
      exact ⟨off i 0 0 _ e (h1 i).1, off i 1 1 _ e (h1 i).2.1, off i 2 2 _ e (h1 i).2.2⟩
  · by_cases e : i = j
    · subst e
      rw [fm_upS, fm_upS]
      have h2x := (h2 i).2
      rw [ex] at h2x
      exact ⟨prL_rf _, prL_O h2x⟩
    · rw [fm_upN e, fm_upN e]
      exact h2 i
  · rcases hm q hq with e | e
    · exact prG_commit hg hsk (h3 q e)
    · intro w
      obtain ⟨w1, n, w2, w3⟩ := e w
      exact Or.inl ⟨w1, n, by omega, w3⟩
theorem prR_unk {N' g' : Nat} {I' : ag_T} {sk sl : Nat → Nat} {h lv : Nat} {r : rw_T} (hr : pr_R a N g I Ca sk h lv r) (hk : kn r.2.1 = 0) : pr_R a N' g' I' Ca sl h lv r := by
  obtain ⟨S, K, O, T, G, H, D⟩ := r
  have hk : kn K = 0 := hk
  obtain ⟨k0, ⟨c1, c2, c3, c4⟩, c5, c6, c7, c8, c9, c10⟩ := hr
  have hS : S = 0 := by
    by_cases e : S = 0
    · exact e
    · have := (c2 e).2
      omega
  subst hS
  refine ⟨k0, ⟨c1, fun e => absurd rfl e, c3, by omega⟩, fun e => by omega, fun e => by omega, fun e => by omega, fun e => ?_, c9, c10⟩
  rw [c9 hk]
  exact Nat.zero_le _
theorem pi_new (h : pr_I a N g I Ca x y z ms) {j S D : Nat} {K O T H : Int32} {G A : ag_T} (hu : ∀ i, kn (x i).2.1 = 0) (hq : ∀ q ∈ ms, q.2.1 ≠ a) (hj : j < 4) (hw : ag_wf a A) (h4 : A.1 4 = 0) (h5 : A.1 5 = 0) (ex : x j = (S, K, O, T, G, H, D)) : pr_I a 0 j A Ca (va_up x j (1, 0, -1, T, A, H, D)) y z ms := by
  obtain ⟨h0, h1, h2, h3⟩ := h
  have hy : ∀ i, kn (y i).2.1 = 0 := fun i => by
    have := prL_k (h2 i).2
    have := hu i
    omega
  have hz : ∀ i, kn (z i).2.1 = 0 := fun i => by
    have := prL_k (h2 i).1
    have := hy i
    omega
  have hx := (h1 j).1
  have hl := (h2 j).2
  have hxj := hu j
  rw [ex] at hx hl hxj
  have hxj : kn K = 0 := hxj
  have k1 : kn (0 : Int32) = 1 := by decide
  have hbase : pr_I a 0 j A Ca x y z ms := ⟨⟨by decide, hj, by omega⟩, fun i => ⟨prR_unk (h1 i).1 (hu i), prR_unk (h1 i).2.1 (hy i), prR_unk (h1 i).2.2 (hz i)⟩, h2, fun q hq1 e => absurd e (hq q hq1)⟩
  refine pi_mem hbase ?_ (prL_up hl (by omega))
  obtain ⟨k0, ⟨c1, c2, c3, c4⟩, c5, c6, c7, c8, c9, c10⟩ := hx
  refine ⟨by decide, ⟨by decide, fun _ => ⟨hw, by omega⟩, Or.inl rfl, by omega⟩, fun _ => ⟨by omega, h4, rfl⟩, fun e => by omega, fun _ => ⟨by decide, Nat.le_refl _, ?_, fun i hi => by omega⟩, fun e => by omega, fun e => by omega, c10⟩
  rw [c9 hxj]
  exact Nat.zero_le _
theorem pi_acc (h : pr_I a N g I Ca x y z ms) {S D f : Nat} {K O O' T H : Int32} {G : ag_T} (ex : x g = (S, K, O, T, G, H, D)) (hk : kn K ≤ N) (hw : ag_wf a I) (h4 : I.1 4 = N) (hf : f < 4) (hO : O' = nI f) : pr_I a N g I Ca (va_up x g (1, nI N, O', T, I, H, D)) y z ms := by
  have hb := h
  obtain ⟨h0, h1, h2, h3⟩ := h
  have hx := (h1 g).1
  have hl := (h2 g).2
  rw [ex] at hx hl
  have k1 : kn (nI N) = N + 1 := kn_nI (by omega)
  refine pi_mem hb ?_ (prL_up hl (by omega))
  obtain ⟨k0, ⟨c1, c2, c3, c4⟩, c5, c6, c7, c8, c9, c10⟩ := hx
  refine ⟨by rw [k1]; rfl, ⟨by decide, fun _ => ⟨hw, by omega⟩, Or.inr ⟨by omega, f, hf, hO⟩, by omega⟩, fun _ => ⟨k1, h4, rfl⟩, fun e => by omega, fun _ => ⟨by decide, Nat.le_refl _, c8 hk, fun i hi => Or.inr (Nat.lt_of_lt_of_le hi h0.2.2)⟩, fun e => by omega, fun e => by omega, c10⟩
theorem prR_e {sk : Nat → Nat} {h lv S D : Nat} {K O T H : Int32} {G : ag_T} (hr : pr_R a N g I Ca sk h lv (S, K, O, T, G, H, D)) (hk : kn K ≤ N) : pr_R a N g I Ca sk h lv (0, K, O, T, G, H, D) := by
  obtain ⟨k0, ⟨c1, c2, c3, c4⟩, c5, c6, c7, c8, c9, c10⟩ := hr
  exact ⟨k0, ⟨by decide, fun e => absurd rfl e, c3, c4⟩, fun e => by omega, fun e => by omega, fun e => by omega, c8, c9, c10⟩
end PRO
/-! parent and child -/
def pr_cl (r : rw_T) : Nat := r.2.2.2.2.1.1 7
def pr_a (N g h : Nat) (r c : rw_T) : Prop := (kn c.2.1 ≠ 0 → h = g ∧ kn r.2.1 = N + 1 ∧ pr_cl r ≠ 0) ∧ (kn r.2.1 = N + 1 → pr_cl r ≠ 0 → kn c.2.1 ≠ 0)
/-- no sealed copy knows the child -/
def pr_A (a N g : Nat) (I : ag_T) (x y z u v w : Nat → rw_T) (ms : List mg_T) : Prop := I.1 7 = 0 ∧ (∀ h, kn (w h).2.1 = 0) ∧ (∀ q ∈ ms, q.2.1 ≠ a + 4) ∧ (∀ h, pr_a N g h (x h) (u h) ∧ pr_a N g h (y h) (v h) ∧ pr_a N g h (z h) (w h))
def pr_b (N : Nat) (r : rw_T) : Prop := kn r.2.1 = N + 1 → pr_cl r ≠ 0
/-- wherever the parent lives it has cloned -/
def pr_B (N g : Nat) (I : ag_T) (x y z : Nat → rw_T) : Prop := (∀ h, pr_b N (x h) ∧ pr_b N (y h) ∧ pr_b N (z h)) ∧ (kn (z g).2.1 = N + 1 ∨ I.1 7 ≠ 0)
def pr_P (a N g : Nat) (I : ag_T) (x y z u v w : Nat → rw_T) (ms : List mg_T) : Prop := pr_A a N g I x y z u v w ms ∨ pr_B N g I x y z
section PRP
variable {a N g : Nat} {I : ag_T} {x y z u v w : Nat → rw_T} {ms : List mg_T}
theorem pc_same {x' u' : Nat → rw_T} {mt : List mg_T} (h : pr_P a N g I x y z u v w ms) (hx : ∀ i, kn (x' i).2.1 = kn (x i).2.1 ∧ (kn (x i).2.1 = N + 1 → (pr_cl (x' i) ≠ 0 ↔ pr_cl (x i) ≠ 0))) (hu : ∀ i, kn (u' i).2.1 = kn (u i).2.1) (hm : (∀ h, kn (w h).2.1 = 0) → ∀ q ∈ mt, q ∈ ms ∨ q.2.1 ≠ a + 4) : pr_P a N g I x' y z u' v w mt := by
  rcases h with ⟨h1, h2, h3, h4⟩ | ⟨h1, h2⟩
  · refine Or.inl ⟨h1, h2, fun q hq => (hm h2 q hq).elim (h3 q) id, fun i => ⟨⟨fun e => ?_, fun e1 e2 => ?_⟩, (h4 i).2⟩⟩
    · rw [hu i] at e
      obtain ⟨e1, e2, e3⟩ := (h4 i).1.1 e
      exact ⟨e1, (hx i).1.trans e2, ((hx i).2 e2).mpr e3⟩
    · rw [(hx i).1] at e1
      rw [hu i]
      exact (h4 i).1.2 e1 (((hx i).2 e1).mp e2)
  · refine Or.inr ⟨fun i => ⟨fun e => ?_, (h1 i).2⟩, h2⟩
    rw [(hx i).1] at e
    exact ((hx i).2 e).mpr ((h1 i).1 e)
theorem pc_copy (h : pr_P a N g I x y z u v w ms) (j : Nat) : pr_P a N g I x (va_up y j (x j)) z u (va_up v j (u j)) w ms := by
  rcases h with ⟨h1, h2, h3, h4⟩ | ⟨h1, h2⟩
  · refine Or.inl ⟨h1, h2, h3, fun i => ⟨(h4 i).1, ?_, (h4 i).2.2⟩⟩
    by_cases e : i = j
    · subst e; rw [fm_upS, fm_upS]; exact (h4 i).1
    · rw [fm_upN e, fm_upN e]; exact (h4 i).2.1
  · refine Or.inr ⟨fun i => ⟨(h1 i).1, ?_, (h1 i).2.2⟩, h2⟩
    by_cases e : i = j
    · subst e; rw [fm_upS]; exact (h1 i).1
    · rw [fm_upN e]; exact (h1 i).2.1
theorem pc_crash (h : pr_P a N g I x y z u v w ms) (j : Nat) : pr_P a N g I (va_up x j (z j)) (va_up y j (z j)) z (va_up u j (w j)) (va_up v j (w j)) w ms := by
  rcases h with ⟨h1, h2, h3, h4⟩ | ⟨h1, h2⟩
  · refine Or.inl ⟨h1, h2, h3, fun i => ?_⟩
    by_cases e : i = j
    · subst e; rw [fm_upS, fm_upS, fm_upS, fm_upS]; exact ⟨(h4 i).2.2, (h4 i).2.2, (h4 i).2.2⟩
    · rw [fm_upN e, fm_upN e, fm_upN e, fm_upN e]; exact h4 i
  · refine Or.inr ⟨fun i => ?_, h2⟩
    by_cases e : i = j
    · subst e; rw [fm_upS, fm_upS]; exact ⟨(h1 i).2.2, (h1 i).2.2, (h1 i).2.2⟩
    · rw [fm_upN e, fm_upN e]; exact h1 i
theorem pc_seal0 {x' u' : Nat → rw_T} {mt : List mg_T} (h : pr_P a N g I x y z u v w ms) (j : Nat) (hx : ∀ i, kn (x' i).2.1 = kn (x i).2.1 ∧ pr_cl (x' i) = pr_cl (x i)) (hu : ∀ i, kn (u' i).2.1 = kn (u i).2.1) (hm : ∀ q ∈ mt, q ∈ ms ∨ q.2.1 ≠ a + 4 ∨ kn (v j).2.1 ≠ 0) (hat : ∀ i, (kn (x i).2.1 = N + 1 → i = g) ∧ (kn (y i).2.1 = N + 1 → i = g) ∧ (kn (z i).2.1 = N + 1 → i = g)) (hle : ∀ i, kn (z i).2.1 ≤ kn (y i).2.1 ∧ kn (y i).2.1 ≤ N + 1) (hvu : kn (v j).2.1 ≤ kn (u j).2.1) : pr_P a N g I x' y (va_up z j (y j)) u' v (va_up w j (v j)) mt := by
  rcases h with ⟨h1, h2, h3, h4⟩ | ⟨h1, h2⟩
  · by_cases ev : kn (v j).2.1 = 0
    · refine Or.inl ⟨h1, fun i => ?_, fun q hq => ?_, fun i => ⟨?_, (h4 i).2.1, ?_⟩⟩
      · by_cases e : i = j
        · subst e; rw [fm_upS]; exact ev
        · rw [fm_upN e]; exact h2 i
      · rcases hm q hq with e | e | e
        · exact h3 q e
        · exact e
        · exact absurd ev e
      · have q := (h4 i).1
        unfold pr_a at q ⊢
        rw [(hx i).1, (hx i).2, hu i]
        exact q
      · by_cases e : i = j
        · subst e; rw [fm_upS, fm_upS]; exact (h4 i).2.1
        · rw [fm_upN e, fm_upN e]; exact (h4 i).2.2
    · obtain ⟨e1, e2, e3⟩ := (h4 j).2.1.1 ev
      obtain ⟨d1, d2, d3⟩ := (h4 j).1.1 (by omega)
      refine Or.inr ⟨fun i => ⟨fun q => ?_, fun q => ?_, fun q => ?_⟩, Or.inl ?_⟩
      · rw [(hx i).1] at q
        have := (hat i).1 q
        rw [(hx i).2, show i = j by omega]
        exact d3
      · have := (hat i).2.1 q
        rw [show i = j by omega]
        exact e3
      · by_cases e : i = j
        · subst e; rw [fm_upS]; exact e3
        · rw [fm_upN e] at q
          have := (hat i).2.2 q
          omega
      · rw [← e1, fm_upS]
        exact e2
  · refine Or.inr ⟨fun i => ⟨fun q => ?_, (h1 i).2.1, ?_⟩, ?_⟩
    · rw [(hx i).1] at q
      rw [(hx i).2]
      exact (h1 i).1 q
    · by_cases e : i = j
      · subst e; rw [fm_upS]; exact (h1 i).2.1
      · rw [fm_upN e]; exact (h1 i).2.2
    · rcases h2 with q | q
      · left
        by_cases e : g = j
        · subst e
          rw [fm_upS]
          have := hle g
          omega
        · rw [fm_upN e]; exact q
      · exact Or.inr q
theorem pc_seal1 {x' u' : Nat → rw_T} {mt : List mg_T} {g' : Nat} {I' : ag_T} (h : pr_P a N g I x y z u v w ms) (j : Nat) (hx : ∀ i, kn (x' i).2.1 = kn (x i).2.1 ∧ pr_cl (x' i) = pr_cl (x i)) (hu : ∀ i, kn (u' i).2.1 = kn (u i).2.1) (hm : ∀ q ∈ mt, q ∈ ms ∨ q.2.1 ≠ a + 4 ∨ kn (v j).2.1 ≠ 0) (hle : ∀ i, kn (x i).2.1 ≤ N + 1 ∧ kn (y i).2.1 ≤ N + 1 ∧ kn (z i).2.1 ≤ N + 1) (hj : j = g) (hk : kn (y j).2.1 = N + 1) (hI : pr_cl (y j) = I'.1 7) (hG : pr_cl (x j) = pr_cl (y j)) : pr_P a (N + 1) g' I' x' y (va_up z j (y j)) u' v (va_up w j (v j)) mt := by
  have zle : ∀ i, kn (va_up z j (y j) i).2.1 ≤ N + 1 := fun i => by
    by_cases e : i = j
    · subst e; rw [fm_upS]; exact (hle i).2.1
    · rw [fm_upN e]; exact (hle i).2.2
  have vac : ∀ i, pr_b (N + 1) (x' i) ∧ pr_b (N + 1) (y i) ∧ pr_b (N + 1) (va_up z j (y j) i) := fun i => ⟨fun q => by
    have := (hle i).1
    have := (hx i).1
    omega, fun q => by
    have := (hle i).2.1
    omega, fun q => by
    have := zle i
    omega⟩
  rcases h with ⟨h1, h2, h3, h4⟩ | ⟨h1, h2⟩
  · by_cases ev : kn (v j).2.1 = 0
    · have hc : pr_cl (y j) = 0 := by
        by_cases q : pr_cl (y j) = 0
        · exact q
        · exact absurd ev ((h4 j).2.1.2 hk q)
      refine Or.inl ⟨by omega, fun i => ?_, fun q hq => ?_, fun i => ⟨⟨fun q => ?_, fun q => ?_⟩, ⟨fun q => ?_, fun q => ?_⟩, ⟨fun q => ?_, fun q => ?_⟩⟩⟩
      · by_cases e : i = j
        · subst e; rw [fm_upS]; exact ev
        · rw [fm_upN e]; exact h2 i
      · rcases hm q hq with e | e | e
        · exact h3 q e
        · exact e
        · exact absurd ev e
      · rw [hu i] at q
        obtain ⟨e1, e2, e3⟩ := (h4 i).1.1 q
        rw [show i = j by omega, hG, hc] at e3
        exact absurd rfl e3
      · have := (hle i).1
        have := (hx i).1
        omega
      · obtain ⟨e1, e2, e3⟩ := (h4 i).2.1.1 q
        rw [show i = j by omega, hc] at e3
        exact absurd rfl e3
      · have := (hle i).2.1
        omega
      · exfalso
        by_cases e : i = j
        · subst e; rw [fm_upS] at q; exact q ev
        · rw [fm_upN e] at q; exact q (h2 i)
      · have := zle i
        omega
    · obtain ⟨e1, e2, e3⟩ := (h4 j).2.1.1 ev
      exact Or.inr ⟨vac, Or.inr (by omega)⟩
  · have := (h1 j).2.1 hk
    exact Or.inr ⟨vac, Or.inr (by omega)⟩
theorem pc_acc {r : rw_T} (h : pr_P a N g I x y z u v w ms) (hk : kn (x g).2.1 ≤ N) (hz : kn (z g).2.1 ≤ kn (x g).2.1) (hr : kn r.2.1 = N + 1) (hc : pr_cl r = I.1 7) : pr_P a N g I (va_up x g r) y z u v w ms := by
  rcases h with ⟨h1, h2, h3, h4⟩ | ⟨h1, h2⟩
  · refine Or.inl ⟨h1, h2, h3, fun i => ⟨?_, (h4 i).2⟩⟩
    by_cases e : i = g
    · subst e
      rw [fm_upS]
      refine ⟨fun q => ?_, fun _ q => ?_⟩
      · have := ((h4 i).1.1 q).2.1
        omega
      · omega
    · rw [fm_upN e]; exact (h4 i).1
  · refine Or.inr ⟨fun i => ⟨?_, (h1 i).2⟩, h2⟩
    by_cases e : i = g
    · subst e
      rw [fm_upS]
      intro _
      rw [hc]
      rcases h2 with q | q
      · omega
      · exact q
    · rw [fm_upN e]; exact (h1 i).1
theorem pc_child {u' : Nat → rw_T} {mt : List mg_T} {q : mg_T} (h : pr_P a N g I x y z u v w ms) (hq : q ∈ ms) (he : q.2.1 = a + 4) : pr_P a N g I x y z u' v w mt := by
  rcases h with ⟨h1, h2, h3, h4⟩ | h
  · exact absurd he (h3 q hq)
  · exact Or.inr h
theorem pc_new {r : rw_T} {A : ag_T} {j : Nat} (hx : ∀ i, kn (x i).2.1 = 0 ∧ kn (y i).2.1 = 0 ∧ kn (z i).2.1 = 0) (hu : ∀ i, kn (u i).2.1 = 0 ∧ kn (v i).2.1 = 0 ∧ kn (w i).2.1 = 0) (hm : ∀ q ∈ ms, q.2.1 ≠ a + 4) (hr : pr_cl r = 0) (hA : A.1 7 = 0) : pr_P a 0 j A (va_up x j r) y z u v w ms := by
  refine Or.inl ⟨hA, fun i => (hu i).2.2, hm, fun i => ⟨⟨fun q => absurd (hu i).1 q, fun q p => ?_⟩, ⟨fun q => absurd (hu i).2.1 q, fun q => ?_⟩, ⟨fun q => absurd (hu i).2.2 q, fun q => ?_⟩⟩⟩
  · by_cases e : i = j
    · subst e; rw [fm_upS] at p; exact absurd hr p
    · rw [fm_upN e] at q
      have := (hx i).1
      omega
  · have := (hx i).2.1
    omega
  · have := (hx i).2.2
    omega
/-- a parent that lives and has not cloned: nobody knows the child -/
theorem pc_free (h : pr_P a N g I x y z u v w ms) {j : Nat} (hj : j = g) (hk : kn (x j).2.1 = N + 1) (hc : pr_cl (x j) = 0) : (∀ i, kn (u i).2.1 = 0) ∧ (∀ q ∈ ms, q.2.1 ≠ a + 4) := by
  rcases h with ⟨h1, h2, h3, h4⟩ | ⟨h1, h2⟩
  · refine ⟨fun i => ?_, h3⟩
    by_cases e : kn (u i).2.1 = 0
    · exact e
    · obtain ⟨e1, e2, e3⟩ := (h4 i).1.1 e
      rw [show i = j by omega, hc] at e3
      exact absurd rfl e3
  · exact absurd hc ((h1 j).1 hk)
theorem pc_birth {r c : rw_T} (h : pr_P a N g I x y z u v w ms) {j : Nat} (hj : j = g) (hk : kn (x j).2.1 = N + 1) (hc : pr_cl (x j) = 0) (hr : kn r.2.1 = N + 1) (hr7 : pr_cl r ≠ 0) (hc1 : kn c.2.1 ≠ 0) : pr_P a N g I (va_up x j r) y z (va_up u j c) v w ms := by
  rcases h with ⟨h1, h2, h3, h4⟩ | ⟨h1, h2⟩
  · refine Or.inl ⟨h1, h2, h3, fun i => ⟨?_, (h4 i).2⟩⟩
    by_cases e : i = j
    · subst e
      rw [fm_upS, fm_upS]
      exact ⟨fun _ => ⟨hj, hr, hr7⟩, fun _ _ => hc1⟩
    · rw [fm_upN e, fm_upN e]; exact (h4 i).1
  · exact absurd hc ((h1 j).1 hk)
end PRP
