/-! THE WORLD: what the class and the reference hold between calls -/
def cw_P (M : fm_M) : Prop := fm_AP M ∧ fm_NP M ∧ fp_F M ∧ sy_P M 66 ∧ ∀ mm, fm_isM mm → fm_MP M mm
theorem ap_low : ∀ q ∈ fm_ap, q.1 < 16 := by decide
theorem cwP_of {M M' : fm_M} (e : ∀ q, q ≠ 16 → q ≠ 17 → (∀ j, j < 4 → q ≠ 90 + 124 * j) → q < 586 → M'.2.2 q = M.2.2 q) (h : cw_P M) : cw_P M' := by
  obtain ⟨h1, h2, h3, h4, h5⟩ := h
  have lo : ∀ q, q < 90 → q ≠ 16 → q ≠ 17 → M'.2.2 q = M.2.2 q := fun q a b c => e q b c (fun j _ => by omega) (by omega)
  refine ⟨fun q hq => ?_, ?_, ?_, ?_, fun mm hM => ?_⟩
  · have := ap_low q hq
    rw [lo q.1 (by omega) (by omega) (by omega)]
    exact h1 q hq
  · unfold fm_NP at h2 ⊢
    rw [lo 60 (by decide) (by decide) (by decide), lo 61 (by decide) (by decide) (by decide)]
    exact h2
  · unfold fp_F sy_P tr_P at h3 ⊢
    rw [lo 69 (by decide) (by decide) (by decide), lo 70 (by decide) (by decide) (by decide), lo 74 (by decide) (by decide) (by decide), lo 78 (by decide) (by decide) (by decide)]
    exact h3
  · unfold sy_P at h4 ⊢
    rw [lo 66 (by decide) (by decide) (by decide)]
    exact h4
  · have hlo := isM_lo hM
    exact MP_of2 (fun q a b => e q (by omega) (by omega) (fun j hj => by
      have := isM_site (j := j) hM
      omega) (by omega)) (h5 mm hM)
def cw_O (j p : Nat) : Prop := ∃ v, v < 3 ∧ p = 91 + 124 * j + 41 * v
theorem cwO_M {j p : Nat} (hj : j < 4) (h : cw_O j p) : fm_isM p := by
  obtain ⟨v, hv, e⟩ := h
  exact ⟨j, v, hj, hv, e⟩
theorem cwO_in {j p : Nat} (h : cw_O j p) : 90 + 124 * j < p ∧ p + 41 ≤ 214 + 124 * j := by
  obtain ⟨v, hv, e⟩ := h
  omega
/-- host j in the class: up or down, the sectors left, memory, copy, sealed copy -/
def cw_S (j u l : Nat) (m c s : am_T) (M : fm_M) : Prop := ∃ pa pb pc, cw_O j pa ∧ cw_O j pb ∧ cw_O j pc ∧ pa ≠ pb ∧ pa ≠ pc ∧ pb ≠ pc ∧ M.2.2 (90 + 124 * j) 3 = some pa ∧ M.2.2 (90 + 124 * j) 4 = some pb ∧ M.2.2 (90 + 124 * j) 5 = some pc ∧ M.1 (90 + 124 * j) 0 = nI j ∧ M.1 (90 + 124 * j) 1 = nI u ∧ M.1 (90 + 124 * j) 2 = nI l ∧ (u = 1 → hc_M M pa m) ∧ hc_M M pb s ∧ (l ≠ 0 → hc_M M pc c)
theorem cwS_of {j u l : Nat} {m c s : am_T} {M M' : fm_M} (e : ∀ q, 90 + 124 * j ≤ q → q < 214 + 124 * j → M'.1 q = M.1 q ∧ M'.2.1 q = M.2.1 q ∧ M'.2.2 q = M.2.2 q) (h : cw_S j u l m c s M) : cw_S j u l m c s M' := by
  obtain ⟨pa, pb, pc, oa, ob, oc, n1, n2, n3, p3, p4, p5, f0, f1, f2, hm, hs, hc⟩ := h
  have ia := cwO_in oa
  have ib := cwO_in ob
  have ic := cwO_in oc
  have e0 := e (90 + 124 * j) (Nat.le_refl _) (by omega)
  have mv : ∀ p x, 90 + 124 * j < p ∧ p + 41 ≤ 214 + 124 * j → hc_M M p x → hc_M M' p x := fun p x hp hx => hcM_of (fun q a b => (e q (by omega) (by omega)).1) (fun q a b => (e q (by omega) (by omega)).2.1) hx
  exact ⟨pa, pb, pc, oa, ob, oc, n1, n2, n3, by rw [e0.2.2]; exact p3, by rw [e0.2.2]; exact p4, by rw [e0.2.2]; exact p5, by rw [e0.1]; exact f0, by rw [e0.1]; exact f1, by rw [e0.1]; exact f2, fun q => mv pa m ia (hm q), mv pb s ib hs, fun q => mv pc c ic (hc q)⟩
def cw_W (ms : List mg_T) (M : fm_M) : Prop := ∃ w, wi_P M w ∧ hc_W M w ms
theorem cwW_of {ms : List mg_T} {M M' : fm_M} (e : ∀ q, 16 ≤ q → q < 60 → M'.1 q = M.1 q ∧ M'.2.2 q = M.2.2 q) (h : cw_W ms M) : cw_W ms M' := by
  obtain ⟨w, hp, hw⟩ := h
  refine ⟨w, ⟨?_, fun k hk => ?_, ?_, hp.2.2.2.1, hp.2.2.2.2.1, fun u hu => ?_⟩, hcW_of hp (fun q a b => (e q a b).1) hw⟩
  · rw [(e 16 (by decide) (by decide)).2]; exact hp.1
  · rw [(e 17 (by decide) (by decide)).2]; exact hp.2.1 k hk
  · rw [(e 16 (by decide) (by decide)).2]; exact hp.2.2.1
  · rw [(e (18 + 2 * u) (by omega) (by omega)).2]; exact hp.2.2.2.2.2 u hu
def cw_F (FC : Nat → Nat) (FV : Nat → Nat → Int32) (mt : Nat → Nat) (M : fm_M) : Prop := hc_L M 70 FC FV ∧ ∀ a, a < 8 → M.1 73 a = nI (mt a)
theorem cwF_of {FC mt : Nat → Nat} {FV : Nat → Nat → Int32} {M M' : fm_M} (e : ∀ q, 71 ≤ q → q ≤ 73 → M'.1 q = M.1 q) (h : cw_F FC FV mt M) : cw_F FC FV mt M' := ⟨hcL_of (e 71 (by decide) (by decide)) (e 72 (by decide) (by decide)) h.1, fun a ha => by rw [e 73 (by decide) (by decide)]; exact h.2 a ha⟩
def cw_K (L : Nat) (sc : Nat → List Nat) (tb : Nat → Nat → Int32) (M : fm_M) : Prop := M.1 8 7 = nI L ∧ (∀ q, q < 4 → hs_S M q (sc q)) ∧ ∀ j, j < 4 → ∀ k, k < 8 → M.1 (11 + j) k = tb j k
theorem hsS_of {M M' : fm_M} {q : Nat} {sc : List Nat} (e1 : M'.1 (82 + 2 * q) = M.1 (82 + 2 * q)) (e2 : M'.1 (83 + 2 * q) = M.1 (83 + 2 * q)) (e3 : M'.2.2 (82 + 2 * q) = M.2.2 (82 + 2 * q)) (h : hs_S M q sc) : hs_S M' q sc := by
  unfold hs_S at h ⊢
  rw [e1, e2, e3]
  exact h
theorem cwK_of {L : Nat} {sc : Nat → List Nat} {tb : Nat → Nat → Int32} {M M' : fm_M} (e8 : M'.1 8 7 = M.1 8 7) (e : ∀ q, (11 ≤ q ∧ q < 15) ∨ (82 ≤ q ∧ q < 90) → M'.1 q = M.1 q) (e2 : ∀ q, 82 ≤ q → q < 90 → M'.2.2 q = M.2.2 q) (h : cw_K L sc tb M) : cw_K L sc tb M' :=
  ⟨e8.trans h.1, fun q hq => hsS_of (e _ (by omega)) (e _ (by omega)) (e2 _ (by omega) (by omega)) (h.2.1 q hq), fun j hj k hk => by rw [e (11 + j) (by omega)]; exact h.2.2 j hj k hk⟩
def w_C (up lf : Nat → Nat) (m c s : Nat → am_T) (ms : List mg_T) (C : Nat → Nat) (W : Nat → Nat → Int32) (L : Nat) (sc : Nat → List Nat) (tb : Nat → Nat → Int32) (FC : Nat → Nat) (FV : Nat → Nat → Int32) (mt : Nat → Nat) (M : fm_M) : Prop := cw_P M ∧ (∀ j, j < 4 → cw_S j (up j) (lf j) (m j) (c j) (s j) M) ∧ cw_W ms M ∧ hc_L M 66 C W ∧ cw_F FC FV mt M ∧ cw_K L sc tb M
/-- the reference's host j -/
def rf_S (j u l : Nat) (m c s : am_T) (M : fm_M) : Prop := M.1 595 j = nI u ∧ M.1 596 j = nI l ∧ (u = 1 → hr_M M (24 * j) m) ∧ hr_M M (24 * j + 16) s ∧ (l ≠ 0 → hr_M M (24 * j + 8) c)
def rf_K (L : Nat) (sc : Nat → List Nat) (tb : Nat → Nat → Int32) (hm ru pu : Nat → Nat) (M : fm_M) : Prop := M.1 586 4 = nI L ∧ (∀ q, q < 4 → hs_R M q (sc q)) ∧ (∀ j, j < 4 → ∀ k, k < 8 → M.1 589 (8 * j + k) = tb j k) ∧ ∀ a, a < L → M.1 590 a = nI (hm a) ∧ M.1 591 a = nI (ru a) ∧ M.1 592 a = nI (pu a)
theorem hsR_of {M M' : fm_M} {q : Nat} {sc : List Nat} (e1 : M'.1 588 q = M.1 588 q) (e2 : ∀ k, M'.1 587 k = M.1 587 k) (h : hs_R M q sc) : hs_R M' q sc := ⟨e1.trans h.1, h.2.1, fun k v hv => ⟨(e2 _).trans (h.2.2 k v hv).1, (h.2.2 k v hv).2⟩⟩
theorem rfK_of {L : Nat} {sc : Nat → List Nat} {tb : Nat → Nat → Int32} {hm ru pu : Nat → Nat} {M M' : fm_M} (e4 : M'.1 586 4 = M.1 586 4) (e : ∀ q, 587 ≤ q → q ≤ 592 → M'.1 q = M.1 q) (h : rf_K L sc tb hm ru pu M) : rf_K L sc tb hm ru pu M' :=
  ⟨e4.trans h.1, fun q hq => hsR_of (by rw [e 588 (by decide) (by decide)]) (fun k => by rw [e 587 (by decide) (by decide)]) (h.2.1 q hq), fun j hj k hk => by rw [e 589 (by decide) (by decide)]; exact h.2.2.1 j hj k hk, fun a ha => by
    rw [e 590 (by decide) (by decide), e 591 (by decide) (by decide), e 592 (by decide) (by decide)]
    exact h.2.2.2 a ha⟩
def w_R (up lf : Nat → Nat) (m c s : Nat → am_T) (ms : List mg_T) (C : Nat → Nat) (W : Nat → Nat → Int32) (L : Nat) (sc : Nat → List Nat) (tb : Nat → Nat → Int32) (hm ru pu : Nat → Nat) (M : fm_M) : Prop := fm_RP M ∧ (∀ j, j < 4 → rf_S j (up j) (lf j) (m j) (c j) (s j) M) ∧ hr_W M ms ∧ hr_L M C W ∧ rf_K L sc tb hm ru pu M
def lo_E (M M' : fm_M) : Prop := ∀ q, q < 586 ∨ 628 < q → M'.1 q = M.1 q ∧ M'.2.1 q = M.2.1 q ∧ M'.2.2 q = M.2.2 q
def hi_E (M M' : fm_M) : Prop := ∀ q, 586 ≤ q → q ≤ 628 → M'.1 q = M.1 q ∧ M'.2.1 q = M.2.1 q ∧ M'.2.2 q = M.2.2 q
theorem loE_tr {M M1 M2 : fm_M} (h : lo_E M M1) (g : lo_E M1 M2) : lo_E M M2 := fun q a => ⟨(g q a).1.trans (h q a).1, (g q a).2.1.trans (h q a).2.1, (g q a).2.2.trans (h q a).2.2⟩
theorem hiE_tr {M M1 M2 : fm_M} (h : hi_E M M1) (g : hi_E M1 M2) : hi_E M M2 := fun q a b => ⟨(g q a b).1.trans (h q a b).1, (g q a b).2.1.trans (h q a b).2.1, (g q a b).2.2.trans (h q a b).2.2⟩
theorem put2_E {M : fm_M} {t : Int64} : (∀ q, q < 586 → (fm_put2 M 629 0 t).1 q = M.1 q ∧ (fm_put2 M 629 0 t).2.1 q = M.2.1 q ∧ (fm_put2 M 629 0 t).2.2 q = M.2.2 q) ∧ hi_E M (fm_put2 M 629 0 t) := by
  have key : ∀ q, q ≠ 629 → (fm_put2 M 629 0 t).2.1 q = M.2.1 q := fun q hq => by
    funext i
    simp [fm_put2, va_up, hq]
  exact ⟨fun q a => ⟨rfl, key q (by omega), rfl⟩, fun q a b => ⟨rfl, key q (by omega), rfl⟩⟩
section WLD
variable {up lf : Nat → Nat} {m c s : Nat → am_T} {ms : List mg_T} {C : Nat → Nat} {W : Nat → Nat → Int32} {L : Nat} {sc : Nat → List Nat} {tb : Nat → Nat → Int32} {FC : Nat → Nat} {FV : Nat → Nat → Int32} {mt hm ru pu : Nat → Nat} {M M' : fm_M}
theorem wC_lo (e : ∀ q, q < 586 → M'.1 q = M.1 q ∧ M'.2.1 q = M.2.1 q ∧ M'.2.2 q = M.2.2 q) (h : w_C up lf m c s ms C W L sc tb FC FV mt M) : w_C up lf m c s ms C W L sc tb FC FV mt M' := by
  obtain ⟨h1, h2, h3, h4, h5, h6⟩ := h
  exact ⟨cwP_of (fun q _ _ _ a => (e q a).2.2) h1, fun j hj => cwS_of (fun q a b => e q (by omega)) (h2 j hj), cwW_of (fun q a b => ⟨(e q (by omega)).1, (e q (by omega)).2.2⟩) h3, hcL_of (e 67 (by decide)).1 (e 68 (by decide)).1 h4, cwF_of (fun q a b => (e q (by omega)).1) h5, cwK_of (by rw [(e 8 (by decide)).1]) (fun q a => (e q (by omega)).1) (fun q a b => (e q (by omega)).2.2) h6⟩
theorem hrM_hi {b0 : Nat} {x : am_T} (e : ∀ q, 597 ≤ q → q ≤ 616 → M'.1 q = M.1 q ∧ M'.2.1 q = M.2.1 q) (h : hr_M M b0 x) : hr_M M' b0 x := by
  obtain ⟨S, K, O, T, G, H, V, D⟩ := x
  obtain ⟨h1, h2, h3, h4, h5, h6, h7, h8, h9⟩ := h
  have f : ∀ q, 597 ≤ q → q ≤ 616 → M'.1 q = M.1 q := fun q a b => (e q a b).1
  refine ⟨?_, ?_, ?_, ?_, ?_, ?_, ?_, ?_, fun a ha hs => ?_⟩
  · rw [f 597 (by decide) (by decide)]; exact h1
  · rw [f 598 (by decide) (by decide)]; exact h2
  · rw [f 599 (by decide) (by decide)]; exact h3
  · rw [f 600 (by decide) (by decide)]; exact h4
  · rw [f 601 (by decide) (by decide)]; exact h5
  · rw [f 602 (by decide) (by decide)]; exact h6
  · rw [f 603 (by decide) (by decide)]; exact h7
  · rw [f 611 (by decide) (by decide)]; exact h8
  · obtain ⟨g, g1, g2, g3, g4, g5, g6⟩ := h9 a ha hs
    refine ⟨g, fun k k1 k8 hF => ?_, ?_, g3, g4, fun k v hv => ?_, fun k q hq => ?_⟩
    · rw [f (604 + k) (by omega) (by omega)]; exact g1 k k1 k8 hF
    · rw [f 612 (by decide) (by decide)]; exact g2
    · rw [(e 613 (by decide) (by decide)).2]; exact g5 k v hv
    · rw [(e 615 (by decide) (by decide)).2, (e 616 (by decide) (by decide)).2]; exact g6 k q hq
theorem rfS_of {j u l : Nat} {x y z : am_T} (e5 : M'.1 595 j = M.1 595 j) (e6 : M'.1 596 j = M.1 596 j) (e : ∀ q, 597 ≤ q → q ≤ 616 → M'.1 q = M.1 q ∧ M'.2.1 q = M.2.1 q) (h : rf_S j u l x y z M) : rf_S j u l x y z M' := ⟨e5.trans h.1, e6.trans h.2.1, fun q => hrM_hi e (h.2.2.1 q), hrM_hi e h.2.2.2.1, fun q => hrM_hi e (h.2.2.2.2 q)⟩
theorem hrL_of {C : Nat → Nat} {W : Nat → Nat → Int32} (e3 : M'.1 593 = M.1 593) (e4 : M'.1 594 = M.1 594) (h : hr_L M C W) : hr_L M' C W := fun a ha => by
  rw [e3, e4]
  exact h a ha
theorem wR_hi (e : hi_E M M') (h : w_R up lf m c s ms C W L sc tb hm ru pu M) : w_R up lf m c s ms C W L sc tb hm ru pu M' := by
  obtain ⟨h1, h2, h3, h4, h5⟩ := h
  have f : ∀ q, 586 ≤ q → q ≤ 628 → M'.1 q = M.1 q := fun q a b => (e q a b).1
  exact ⟨fun q hq => by rw [(e 586 (by decide) (by decide)).2.2]; exact h1 q hq, fun j hj => rfS_of (by rw [f 595 (by decide) (by decide)]) (by rw [f 596 (by decide) (by decide)]) (fun q a b => ⟨(e q (by omega) (by omega)).1, (e q (by omega) (by omega)).2.1⟩) (h2 j hj), hrW_of (fun q i a b => by rw [f q (by omega) (by omega)]) (by rw [f 586 (by decide) (by decide)]) h3, hrL_of (f 593 (by decide) (by decide)) (f 594 (by decide) (by decide)) h4, rfK_of (by rw [f 586 (by decide) (by decide)]) (fun q a b => f q (by omega) (by omega)) h5⟩
theorem wR_t {v : Int32} (h : w_R up lf m c s ms C W L sc tb hm ru pu M) : w_R up lf m c s ms C W L sc tb hm ru pu (fm_put1 M 586 0 v) := by
  obtain ⟨h1, h2, h3, h4, h5⟩ := h
  have f : ∀ q, q ≠ 586 → (fm_put1 M 586 0 v).1 q = M.1 q := fun q a => funext fun i => p1_other a
  exact ⟨fun q hq => h1 q hq, fun j hj => rfS_of (by rw [f 595 (by decide)]) (by rw [f 596 (by decide)]) (fun q a b => ⟨f q (by omega), rfl⟩) (h2 j hj), hrW_of (fun q i a b => by rw [f q (by omega)]) (p1_at (by decide)) h3, hrL_of (f 593 (by decide)) (f 594 (by decide)) h4, rfK_of (p1_at (by decide)) (fun q a b => f q (by omega)) h5⟩
theorem loE_t {v : Int32} : lo_E M (fm_put1 M 586 0 v) := fun q a => ⟨funext fun i => p1_other (by omega), rfl, rfl⟩
/-- the class: host j alone has changed, and the processor's cells -/
theorem wC_host {j u l : Nat} {x y z : am_T} (h : w_C up lf m c s ms C W L sc tb FC FV mt M) (e : ∀ q, q < 60 ∨ (66 ≤ q ∧ q < 90 + 124 * j) ∨ 214 + 124 * j ≤ q → q < 586 → M'.1 q = M.1 q ∧ M'.2.1 q = M.2.1 q) (e2 : ∀ q, q < 586 → M'.2.2 q = M.2.2 q) (hS : cw_S j u l x y z M') : w_C (va_up up j u) (va_up lf j l) (va_up m j x) (va_up c j y) (va_up s j z) ms C W L sc tb FC FV mt M' := by
  obtain ⟨h1, h2, h3, h4, h5, h6⟩ := h
  refine ⟨cwP_of (fun q _ _ _ a => e2 q a) h1, fun i hi => ?_, cwW_of (fun q a b => ⟨(e q (by omega) (by omega)).1, e2 q (by omega)⟩) h3, hcL_of (e 67 (by omega) (by decide)).1 (e 68 (by omega) (by decide)).1 h4, cwF_of (fun q a b => (e q (by omega) (by omega)).1) h5, cwK_of (by rw [(e 8 (by omega) (by decide)).1]) (fun q a => (e q (by omega) (by omega)).1) (fun q a b => e2 q (by omega)) h6⟩
  by_cases g : i = j
  · subst g
    rw [fm_upS, fm_upS, fm_upS, fm_upS, fm_upS]
    exact hS
  · rw [fm_upN g, fm_upN g, fm_upN g, fm_upN g, fm_upN g]
    exact cwS_of (fun q a b => ⟨(e q (by omega) (by omega)).1, (e q (by omega) (by omega)).2, e2 q (by omega)⟩) (h2 i hi)
/-- the class: host j and the wire have changed -/
theorem wC_wire {j u l : Nat} {x y z : am_T} {mu : List mg_T} (h : w_C up lf m c s ms C W L sc tb FC FV mt M) (e : ∀ q, q < 16 ∨ (66 ≤ q ∧ q < 90 + 124 * j) ∨ 214 + 124 * j ≤ q → q < 586 → M'.1 q = M.1 q ∧ M'.2.1 q = M.2.1 q) (e2 : ∀ q, q ≠ 16 → q ≠ 17 → q < 586 → M'.2.2 q = M.2.2 q) (hW : cw_W mu M') (hS : cw_S j u l x y z M') : w_C (va_up up j u) (va_up lf j l) (va_up m j x) (va_up c j y) (va_up s j z) mu C W L sc tb FC FV mt M' := by
  obtain ⟨h1, h2, h3, h4, h5, h6⟩ := h
  refine ⟨cwP_of (fun q a b _ d => e2 q a b d) h1, fun i hi => ?_, hW, hcL_of (e 67 (by omega) (by decide)).1 (e 68 (by omega) (by decide)).1 h4, cwF_of (fun q a b => (e q (by omega) (by omega)).1) h5, cwK_of (by rw [(e 8 (by omega) (by decide)).1]) (fun q a => (e q (by omega) (by omega)).1) (fun q a b => e2 q (by omega) (by omega) (by omega)) h6⟩
  by_cases g : i = j
  · subst g
    rw [fm_upS, fm_upS, fm_upS, fm_upS, fm_upS]
    exact hS
  · rw [fm_upN g, fm_upN g, fm_upN g, fm_upN g, fm_upN g]
    exact cwS_of (fun q a b => ⟨(e q (by omega) (by omega)).1, (e q (by omega) (by omega)).2, e2 q (by omega) (by omega) (by omega)⟩) (h2 i hi)
/-- the reference: block b0 of host j has changed, and the wire -/
theorem wR_host {j v b0 : Nat} {x y z : am_T} {mu : List mg_T} (h : w_R up lf m c s ms C W L sc tb hm ru pu M) (wf : ∀ i, am_wfs (m i) ∧ am_wfs (c i) ∧ am_wfs (s i)) (hv : v < 3) (hb : b0 = 24 * j + 8 * v) (f : fk_R b0 M M') (hW : hr_W M' mu) (hS : rf_S j (up j) (lf j) x y z M') : w_R up lf (va_up m j x) (va_up c j y) (va_up s j z) mu C W L sc tb hm ru pu M' := by
  obtain ⟨h1, h2, h3, h4, h5⟩ := h
  obtain ⟨f1, f2, f3, f4, f5⟩ := f
  refine ⟨fun q hq => by rw [f1]; exact h1 q hq, fun i hi => ?_, hW, hrL_of (f3 593 (by decide) (by decide)) (f3 594 (by decide) (by decide)) h4, rfK_of (f2 4 (Or.inl rfl)) (fun q a b => f3 q a (by omega)) h5⟩
  by_cases g : i = j
  · subst g
    rw [fm_upS, fm_upS, fm_upS]
    exact hS
  · rw [fm_upN g, fm_upN g, fm_upN g]
    obtain ⟨s1, s2, s3, s4, s5⟩ := h2 i hi
    exact ⟨by rw [f3 595 (by decide) (by decide)]; exact s1, by rw [f3 596 (by decide) (by decide)]; exact s2, fun q => f4 _ _ (by omega) (wf i).1 (s3 q), f4 _ _ (by omega) (wf i).2.2 s4, fun q => f4 _ _ (by omega) (wf i).2.1 (s5 q)⟩
theorem loE_k {b0 : Nat} (f : fk_R b0 M M') : lo_E M M' := fun q a => ⟨(f.2.2.2.2 q (by omega)).1, (f.2.2.2.2 q (by omega)).2, by rw [f.1]⟩
end WLD
