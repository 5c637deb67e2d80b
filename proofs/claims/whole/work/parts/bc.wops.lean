/-! THE WORLD: step, tick, checkpoint, write, crash, start of the class -/
theorem fx_post {l : Launch} {y : MethodName} {ws : List Cond} {rm : Room} {Pc : Array Value → State → Prop} {lay : Nat → Nat × Nat} {nf : Nat → Nat} {fk : Nat → Nat → Nat} {cl : List vw_C} {b : Nat} {x : Nat → Nat} {D : va_G} {dA : Nat → ClassId} {post post' : Option Value → Nat → fm_M → Prop} {xp : String → Nat → fm_M → Prop} {mc ms : Nat} (h : MetFree l y (headSpec ws rm) Pc (fun _ _ _ _ _ => True) (fx_Q lay nf fk cl b x D dA post xp mc ms)) (hp : ∀ r n' M', post r n' M' → post' r n' M') : MetFree l y (headSpec ws rm) Pc (fun _ _ _ _ _ => True) (fx_Q lay nf fk cl b x D dA post' xp mc ms) :=
  MetFree.mono h (fun _ _ h => h) (fun _ _ _ _ _ h => h) (fun _ _ _ _ _ h => ⟨h.1, h.2.1, h.2.2.imp (fun q => by obtain ⟨r, n', M', a1, a2, a3⟩ := q; exact ⟨r, n', M', a1, hp _ _ _ a2, a3⟩) id⟩)
def cw_T (j u l : Nat) (m c s : am_T) (M : fm_M) (pa pb pc : Nat) : Prop := cw_O j pa ∧ cw_O j pb ∧ cw_O j pc ∧ pa ≠ pb ∧ pa ≠ pc ∧ pb ≠ pc ∧ M.2.2 (90 + 124 * j) 3 = some pa ∧ M.2.2 (90 + 124 * j) 4 = some pb ∧ M.2.2 (90 + 124 * j) 5 = some pc ∧ M.1 (90 + 124 * j) 0 = nI j ∧ M.1 (90 + 124 * j) 1 = nI u ∧ M.1 (90 + 124 * j) 2 = nI l ∧ (u = 1 → hc_M M pa m) ∧ hc_M M pb s ∧ (l ≠ 0 → hc_M M pc c)
theorem cwO_far {j p q : Nat} (h : cw_O j p) (g : cw_O j q) (hne : p ≠ q) : p + 41 ≤ q ∨ q + 41 ≤ p := by
  obtain ⟨v, hv, e⟩ := h
  obtain ⟨w, hw, f⟩ := g
  have : v ≠ w := fun k => hne (by rw [e, f, k])
  omega
section WOC
variable {l : Launch} {b : Nat} {x : Nat → Nat} {D : va_G} {dA : Nat → ClassId}
variable {up lf : Nat → Nat} {m c s : Nat → am_T} {ms : List mg_T} {C : Nat → Nat} {W : Nat → Nat → Int32} {L : Nat} {sc : Nat → List Nat} {tb : Nat → Nat → Int32} {FC : Nat → Nat} {FV : Nat → Nat → Int32} {mt : Nat → Nat} {M M' : fm_M}
theorem cwT_u {j : Nat} {x y z : am_T} {u lq pa pb pc : Nat} (h : cw_T j u lq x y z M pa pb pc) (hu : u = 1) : ¬ M.1 (90 + 124 * j) 1 = 0 := by
  rw [h.2.2.2.2.2.2.2.2.2.2.1, hu]
  decide
/-- its memory alone has changed -/
theorem cwT_a {j u lq : Nat} {x y z x' : am_T} {pa pb pc : Nat} (h : cw_T j u lq x y z M pa pb pc) (e : ∀ q, 90 + 124 * j ≤ q → q < 214 + 124 * j → q < pa ∨ pa + 41 ≤ q → M'.1 q = M.1 q ∧ M'.2.1 q = M.2.1 q) (e2 : M'.2.2 (90 + 124 * j) = M.2.2 (90 + 124 * j)) (hx : hc_M M' pa x') : cw_S j u lq x' y z M' := by
  obtain ⟨oa, ob, oc, n1, n2, n3, p3, p4, p5, f0, f1, f2, hm, hs, hc⟩ := h
  have ia := cwO_in oa
  have ib := cwO_in ob
  have ic := cwO_in oc
  have e0 := (e (90 + 124 * j) (Nat.le_refl _) (by omega) (by omega)).1
  have fb := cwO_far oa ob n1
  have fc := cwO_far oa oc n2
  exact ⟨pa, pb, pc, oa, ob, oc, n1, n2, n3, by rw [e2]; exact p3, by rw [e2]; exact p4, by rw [e2]; exact p5, by rw [e0]; exact f0, by rw [e0]; exact f1, by rw [e0]; exact f2, fun _ => hx, hcM_of (fun q a b => (e q (by omega) (by omega) (by omega)).1) (fun q a b => (e q (by omega) (by omega) (by omega)).2) hs, fun g => hcM_of (fun q a b => (e q (by omega) (by omega) (by omega)).1) (fun q a b => (e q (by omega) (by omega) (by omega)).2) (hc g)⟩
theorem wC_mem {j : Nat} {x' : am_T} (h : w_C up lf m c s ms C W L sc tb FC FV mt M) (e : ∀ q, q < 60 ∨ (66 ≤ q ∧ q < 90 + 124 * j) ∨ 214 + 124 * j ≤ q → q < 586 → M'.1 q = M.1 q ∧ M'.2.1 q = M.2.1 q) (e2 : ∀ q, q < 586 → M'.2.2 q = M.2.2 q) (hS : cw_S j (up j) (lf j) x' (c j) (s j) M') : w_C up lf (va_up m j x') c s ms C W L sc tb FC FV mt M' := by
  have t := wC_host h e e2 hS
  rw [va_same (f := up) rfl, va_same (f := lf) rfl, va_same (f := c) rfl, va_same (f := s) rfl] at t
  exact t
theorem wc_step (htr : l.stackTraces = false) {j k : Nat} (h : w_C up lf m c s ms C W L sc tb FC FV mt M) (hj : j < 4) (hu : up j = 1) (hW : am_W (m j)) (hc1 : 1 ≤ k) (hc40 : k ≤ 40) : MetFree l y_An_step (headSpec (Cond.code y_An_step b_An_step 5 (some .int) :: fm_T0) ({ frames := 10, cells := 1, slots := 6, locals := 400 })) (fm_Pc fm_lay fm_nf fm_fk fm_cl b x D dA (fm_tys dA) (fm_EX b x) false [.ref 8, .int (nI j), .int (nI k)] 630 M) (fun _ _ _ _ _ => True) (fx_Q fm_lay fm_nf fm_fk fm_cl b x D dA (fun r n' M' => r = some (.int (nI (am_done sc (tb j) j k (m j)))) ∧ n' = 630 ∧ (w_C up lf (va_up m j (am_rounds sc (tb j) j k (m j))) c s ms C W L sc tb FC FV mt M' ∧ hi_E M M')) (fun _ _ _ => False) 1 6) := by
  obtain ⟨pa, pb, pc, hT⟩ := h.2.1 j hj
  have hT : cw_T j (up j) (lf j) (m j) (c j) (s j) M pa pb pc := hT
  have hP := h.1
  have hK := h.2.2.2.2.2
  have hM := cwO_M hj hT.1
  have hlo := isM_lo hM
  have hin := cwO_in hT.1
  refine fx_post (x_step_go (n := 630) htr (by decide) hP.1 hP.2.1 hj hM hT.2.2.2.2.2.2.1 (hP.2.2.2.2 pa hM) hK.2.1 (hK.2.2 j hj) (hT.2.2.2.2.2.2.2.2.2.2.2.2.1 hu) hW (cwT_u hT hu) hc1 hc40) (fun r n' M' q => ⟨q.1, q.2.1, ?_, ?_⟩)
  · obtain ⟨-, -, q1, q2, q3, q4⟩ := q
    refine wC_mem h (fun q a b => q4 q (by omega) (by omega)) (fun q _ => by rw [q3]) (cwT_a hT (fun q a b d => q4 q d (by omega)) (by rw [q3]) q1)
  · obtain ⟨-, -, q1, q2, q3, q4⟩ := q
    exact fun q a b => ⟨(q4 q (by omega) (by omega)).1, (q4 q (by omega) (by omega)).2, by rw [q3]⟩
theorem wc_tick (htr : l.stackTraces = false) {j : Nat} (h : w_C up lf m c s ms C W L sc tb FC FV mt M) (hj : j < 4) (hu : up j = 1) (hW : am_W (m j)) (hsa : am_wfs (s j)) : MetFree l y_An_tick (headSpec (Cond.code y_An_tick b_An_tick 2 (some .int) :: fm_T0) ({ frames := 10, cells := 1, slots := 6, locals := 400 })) (fm_Pc fm_lay fm_nf fm_fk fm_cl b x D dA (fm_tys dA) (fm_EX b x) false [.ref 8, .int (nI j)] 630 M) (fun _ _ _ _ _ => True) (fx_Q fm_lay fm_nf fm_fk fm_cl b x D dA (fun r n' M' => r = some (.int (nI (ar_all j (am_pass (m j)) (s j) ms 8).length)) ∧ n' = 630 ∧ (w_C up lf (va_up m j (am_pass (m j))) c s (ar_all j (am_pass (m j)) (s j) ms 8) C W L sc tb FC FV mt M' ∧ hi_E M M')) (fun _ _ _ => False) 1 6) := by
  obtain ⟨pa, pb, pc, hT⟩ := h.2.1 j hj
  have hT : cw_T j (up j) (lf j) (m j) (c j) (s j) M pa pb pc := hT
  obtain ⟨w, hpw, hw⟩ := h.2.2.1
  have hP := h.1
  have hM := cwO_M hj hT.1
  have hQ := cwO_M hj hT.2.1
  have hlo := isM_lo hM
  have hin := cwO_in hT.1
  refine fx_post (x_tick_go (n := 630) htr (by decide) hj hM hQ hT.2.2.2.2.2.2.1 hT.2.2.2.2.2.2.2.1 hT.2.2.2.2.2.2.2.2.2.1 (hP.2.2.2.2 pa hM) (hP.2.2.2.2 pb hQ) hpw (hT.2.2.2.2.2.2.2.2.2.2.2.2.1 hu) hT.2.2.2.2.2.2.2.2.2.2.2.2.2.1 hw hW hsa hP.1 hT.2.2.2.1 (cwT_u hT hu)) (fun r n' M' q => ⟨q.1, q.2.1, ?_, ?_⟩)
  · obtain ⟨-, -, q1, q2, q3, q4, q5⟩ := q
    have hw' : cw_W (ar_all j (am_pass (m j)) (s j) ms 8) M' := ⟨w, by unfold wi_P at hpw ⊢; rw [q4]; exact hpw, q3⟩
    have t := wC_wire h (fun q a b => q5 q (by omega) (by omega)) (fun q _ _ _ => by rw [q4]) hw' (cwT_a hT (fun q a b d => q5 q d (by omega)) (by rw [q4]) q1)
    rw [va_same (f := up) rfl, va_same (f := lf) rfl, va_same (f := c) rfl, va_same (f := s) rfl] at t
    exact t
  · obtain ⟨-, -, q1, q2, q3, q4, q5⟩ := q
    exact fun q a b => ⟨(q5 q (by omega) (by omega)).1, (q5 q (by omega) (by omega)).2, by rw [q4]⟩
theorem wc_checkpoint (htr : l.stackTraces = false) {j : Nat} (h : w_C up lf m c s ms C W L sc tb FC FV mt M) (hj : j < 4) (hu : up j = 1) (hl : lf j = 0) (hwf : am_wfs (m j)) : MetFree l y_An_checkpoint (headSpec (Cond.code y_An_checkpoint b_An_checkpoint 2 (some .int) :: fm_T0) ({ frames := 10, cells := 1, slots := 6, locals := 400 })) (fm_Pc fm_lay fm_nf fm_fk fm_cl b x D dA (fm_tys dA) (fm_EX b x) false [.ref 8, .int (nI j)] 630 M) (fun _ _ _ _ _ => True) (fx_Q fm_lay fm_nf fm_fk fm_cl b x D dA (fun r n' M' => r = some (.int (nI (am_fil (m j).1 8 + 1))) ∧ n' = 630 ∧ (w_C up (va_up lf j (am_fil (m j).1 8 + 1)) m (va_up c j (m j)) s ms C W L sc tb FC FV mt M' ∧ hi_E M M')) (fun _ _ _ => False) 1 6) := by
  obtain ⟨pa, pb, pc, hT⟩ := h.2.1 j hj
  have hT : cw_T j (up j) (lf j) (m j) (c j) (s j) M pa pb pc := hT
  have hT' := hT
  obtain ⟨oa, ob, oc, n1, n2, n3, p3, p4, p5, f0, f1, f2, hm, hs, hc⟩ := hT'
  have hP := h.1
  have hM := cwO_M hj oa
  have hC := cwO_M hj oc
  have hlo := isM_lo hC
  have ia := cwO_in oa
  have ib := cwO_in ob
  have ic := cwO_in oc
  have fa := cwO_far oa oc n2
  have fb := cwO_far ob oc n3
  refine fx_post (x_checkpoint_go (n := 630) htr (by decide) hC hM (hP.2.2.2.2 pc hC) (hP.2.2.2.2 pa hM) hj p5 p3 (Ne.symm n2) (hm hu) hwf hP.1 (cwT_u hT hu) (by rw [f2, hl])) (fun r n' M' q => ⟨q.1, q.2.1, ?_, ?_⟩)
  · obtain ⟨-, -, q1, q2, q3, q4, q5⟩ := q
    have hS : cw_S j (up j) (am_fil (m j).1 8 + 1) (m j) (m j) (s j) M' := ⟨pa, pb, pc, oa, ob, oc, n1, n2, n3, by rw [q3]; exact p3, by rw [q3]; exact p4, by rw [q3]; exact p5, (q5 0 (by decide)).trans f0, (q5 1 (by decide)).trans f1, q2, fun g => hcM_of (fun q a b => (q4 q (by omega) (by omega)).1) (fun q a b => (q4 q (by omega) (by omega)).2) (hm g), hcM_of (fun q a b => (q4 q (by omega) (by omega)).1) (fun q a b => (q4 q (by omega) (by omega)).2) hs, fun _ => q1⟩
    have t := wC_host h (fun q a b => q4 q (by omega) (by omega)) (fun q _ => by rw [q3]) hS
    rw [va_same (f := up) rfl, va_same (f := m) rfl, va_same (f := s) rfl] at t
    exact t
  · obtain ⟨-, -, q1, q2, q3, q4, q5⟩ := q
    exact fun q a b => ⟨(q4 q (by omega) (by omega)).1, (q4 q (by omega) (by omega)).2, by rw [q3]⟩
theorem wc_start (htr : l.stackTraces = false) {j : Nat} (h : w_C up lf m c s ms C W L sc tb FC FV mt M) (hj : j < 4) (hu : up j = 0) (hl : lf j = 0) (hms : m j = s j) (hwf : am_wfs (s j)) : MetFree l y_An_start (headSpec (Cond.code y_An_start b_An_start 2 (some .boolean) :: fm_T0) ({ frames := 10, cells := 1, slots := 6, locals := 400 })) (fm_Pc fm_lay fm_nf fm_fk fm_cl b x D dA (fm_tys dA) (fm_EX b x) false [.ref 8, .int (nI j)] 630 M) (fun _ _ _ _ _ => True) (fx_Q fm_lay fm_nf fm_fk fm_cl b x D dA (fun r n' M' => r = some (.int (nI 1)) ∧ n' = 630 ∧ (w_C (va_up up j 1) lf m c s ms C W L sc tb FC FV mt M' ∧ hi_E M M')) (fun _ _ _ => False) 1 6) := by
  obtain ⟨pa, pb, pc, hT⟩ := h.2.1 j hj
  obtain ⟨oa, ob, oc, n1, n2, n3, p3, p4, p5, f0, f1, f2, hm, hs, hc⟩ := hT
  have hP := h.1
  have hM := cwO_M hj oa
  have hQ := cwO_M hj ob
  have hlo := isM_lo hM
  have ia := cwO_in oa
  have ib := cwO_in ob
  have ic := cwO_in oc
  have fa := cwO_far oa ob n1
  refine fx_post (x_start_go (n := 630) htr (by decide) hM hQ (hP.2.2.2.2 pa hM) (hP.2.2.2.2 pb hQ) hj p3 p4 n1 hs hwf hP.1 (by rw [f1, hu])) (fun r n' M' q => ⟨q.1, q.2.1, ?_, ?_⟩)
  · obtain ⟨-, -, q1, q2, q3, q4, q5⟩ := q
    have hS : cw_S j 1 (lf j) (m j) (c j) (s j) M' := ⟨pa, pb, pc, oa, ob, oc, n1, n2, n3, by rw [q3]; exact p3, by rw [q3]; exact p4, by rw [q3]; exact p5, (q5 0 (by decide)).trans f0, q2, (q5 2 (by decide)).trans f2, fun _ => by rw [hms]; exact q1, hcM_of (fun q a b => (q4 q (by omega) (by omega)).1) (fun q a b => (q4 q (by omega) (by omega)).2) hs, fun g => absurd hl g⟩
    have t := wC_host h (fun q a b => q4 q (by omega) (by omega)) (fun q _ => by rw [q3]) hS
    rw [va_same (f := lf) rfl, va_same (f := m) rfl, va_same (f := c) rfl, va_same (f := s) rfl] at t
    exact t
  · obtain ⟨-, -, q1, q2, q3, q4, q5⟩ := q
    exact fun q a b => ⟨(q4 q (by omega) (by omega)).1, (q4 q (by omega) (by omega)).2, by rw [q3]⟩
theorem wc_crash (htr : l.stackTraces = false) {j : Nat} (h : w_C up lf m c s ms C W L sc tb FC FV mt M) (hj : j < 4) (hu : up j = 1) : MetFree l y_An_crash (headSpec (Cond.code y_An_crash b_An_crash 2 (some .boolean) :: fm_T0) ({ frames := 6, cells := 1, slots := 6, locals := 90 })) (fm_Pc fm_lay fm_nf fm_fk fm_cl b x D dA (fm_tys dA) (fm_EX b x) false [.ref 8, .int (nI j)] 630 M) (fun _ _ _ _ _ => True) (fx_Q fm_lay fm_nf fm_fk fm_cl b x D dA (fun r n' M' => r = some (.int (nI 1)) ∧ n' = 630 ∧ (w_C (va_up up j 0) (va_up lf j 0) (va_up m j (s j)) (va_up c j (s j)) s ms C W L sc tb FC FV mt M' ∧ hi_E M M')) (fun _ _ _ => False) 1 6) := by
  obtain ⟨pa, pb, pc, hT⟩ := h.2.1 j hj
  have hT : cw_T j (up j) (lf j) (m j) (c j) (s j) M pa pb pc := hT
  have hT' := hT
  obtain ⟨oa, ob, oc, n1, n2, n3, p3, p4, p5, f0, f1, f2, hm, hs, hc⟩ := hT'
  have hP := h.1
  have ib := cwO_in ob
  refine fx_post (x_crash_go (n := 630) htr hj (by decide) hP.1 (cwT_u hT hu)) (fun r n' M' q => ⟨q.1, q.2.1, ?_, ?_⟩)
  · obtain ⟨-, -, q1⟩ := q
    have o1 : ∀ q, q ≠ 90 + 124 * j → M'.1 q = M.1 q := fun q hq => by rw [q1]; exact funext fun i => (p1_other hq).trans (p1_other hq)
    have o2 : M'.2 = M.2 := by rw [q1]; rfl
    have hS : cw_S j 0 0 (s j) (s j) (s j) M' := ⟨pa, pb, pc, oa, ob, oc, n1, n2, n3, by rw [o2]; exact p3, by rw [o2]; exact p4, by rw [o2]; exact p5, by rw [q1]; exact (p1_at (by decide)).trans ((p1_at (by decide)).trans f0), by rw [q1]; exact (p1_at (by decide)).trans (p1_same _ _ _ _), by rw [q1]; exact p1_same _ _ _ _, fun g => absurd g (by decide), hcM_of (fun q a b => o1 q (by omega)) (fun q a b => by rw [o2]) hs, fun g => absurd rfl g⟩
    have t := wC_host h (fun q a b => ⟨o1 q (by omega), by rw [o2]⟩) (fun q _ => by rw [o2]) hS
    rw [va_same (f := s) rfl] at t
    exact t
  · obtain ⟨-, -, q1⟩ := q
    have o1 : ∀ q, q ≠ 90 + 124 * j → M'.1 q = M.1 q := fun q hq => by rw [q1]; exact funext fun i => (p1_other hq).trans (p1_other hq)
    have o2 : M'.2 = M.2 := by rw [q1]; rfl
    exact fun q a b => ⟨o1 q (by omega), by rw [o2], by rw [o2]⟩
theorem wc_less (htr : l.stackTraces = false) {j k : Nat} (h : w_C up lf m c s ms C W L sc tb FC FV mt M) (hj : j < 4) (hu : up j = 1) (hl9 : lf j ≤ 9) (hk1 : 1 ≤ k) (hkl : k < lf j) : MetFree l y_An_write (headSpec (Cond.code y_An_write b_An_write 4 (some .int) :: fm_T0) ({ frames := 10, cells := 1, slots := 6, locals := 400 })) (fm_Pc fm_lay fm_nf fm_fk fm_cl b x D dA (fm_tys dA) (fm_EX b x) false [.ref 8, .int (nI j), .int (nI k)] 630 M) (fun _ _ _ _ _ => True) (fx_Q fm_lay fm_nf fm_fk fm_cl b x D dA (fun r n' M' => r = some (.int (nI (lf j - k))) ∧ n' = 630 ∧ (w_C up (va_up lf j (lf j - k)) m c s ms C W L sc tb FC FV mt M' ∧ hi_E M M')) (fun _ _ _ => False) 1 6) := by
  obtain ⟨pa, pb, pc, hT⟩ := h.2.1 j hj
  have hT : cw_T j (up j) (lf j) (m j) (c j) (s j) M pa pb pc := hT
  have hT' := hT
  obtain ⟨oa, ob, oc, n1, n2, n3, p3, p4, p5, f0, f1, f2, hm, hs, hc⟩ := hT'
  have hP := h.1
  have ia := cwO_in oa
  have ib := cwO_in ob
  have ic := cwO_in oc
  refine fx_post (x_write_less (n := 630) htr (by decide) hj hP.1 (cwT_u hT hu) f2 (by omega) hl9 hk1 hkl) (fun r n' M' q => ⟨q.1, q.2.1, ?_, ?_⟩)
  · obtain ⟨-, -, q1⟩ := q
    have o1 : ∀ q, q ≠ 90 + 124 * j → M'.1 q = M.1 q := fun q hq => by rw [q1]; exact funext fun i => p1_other hq
    have o2 : M'.2 = M.2 := by rw [q1]; rfl
    have mv : ∀ p y, 90 + 124 * j < p → hc_M M p y → hc_M M' p y := fun p y hp hy => hcM_of (fun q a b => o1 q (by omega)) (fun q a b => by rw [o2]) hy
    have hS : cw_S j (up j) (lf j - k) (m j) (c j) (s j) M' := ⟨pa, pb, pc, oa, ob, oc, n1, n2, n3, by rw [o2]; exact p3, by rw [o2]; exact p4, by rw [o2]; exact p5, by rw [q1]; exact (p1_at (by decide)).trans f0, by rw [q1]; exact (p1_at (by decide)).trans f1, by rw [q1]; exact p1_same _ _ _ _, fun g => mv pa _ ia.1 (hm g), mv pb _ ib.1 hs, fun _ => mv pc _ ic.1 (hc (by omega))⟩
    have t := wC_host h (fun q a b => ⟨o1 q (by omega), by rw [o2]⟩) (fun q _ => by rw [o2]) hS
    rw [va_same (f := up) rfl, va_same (f := m) rfl, va_same (f := c) rfl, va_same (f := s) rfl] at t
    exact t
  · obtain ⟨-, -, q1⟩ := q
    have o1 : ∀ q, q ≠ 90 + 124 * j → M'.1 q = M.1 q := fun q hq => by rw [q1]; exact funext fun i => p1_other hq
    have o2 : M'.2 = M.2 := by rw [q1]; rfl
    exact fun q a b => ⟨o1 q (by omega), by rw [o2], by rw [o2]⟩
theorem wc_seal (htr : l.stackTraces = false) {j : Nat} {v : Int32} (h : w_C up lf m c s ms C W L sc tb FC FV mt M) (hj : j < 4) (hu : up j = 1) (hl1 : 1 ≤ lf j) (hl9 : lf j ≤ 9) (hs9 : sr_ok C (c j).2.2.2.2.2.2.2 (c j).2.2.2.2.2.1 (fun a => bt ((c j).2.2.2.2.2.1 a))) (hv1 : nI 1 ≤ v) (hvl : ¬ v < nI (lf j)) : MetFree l y_An_write (headSpec (Cond.code y_An_write b_An_write 4 (some .int) :: fm_T0) ({ frames := 10, cells := 1, slots := 6, locals := 400 })) (fm_Pc fm_lay fm_nf fm_fk fm_cl b x D dA (fm_tys dA) (fm_EX b x) false [.ref 8, .int (nI j), .int v] 630 M) (fun _ _ _ _ _ => True) (fx_Q fm_lay fm_nf fm_fk fm_cl b x D dA (fun r n' M' => r = some (.int (nI 0)) ∧ n' = 630 ∧ (w_C up (va_up lf j 0) (va_up m j (am_ow (m j) (sl_O (c j) (m j) 8))) c (va_up s j (c j)) (sl_W j (c j) ms 8) (sr_C C (c j).2.2.2.2.2.2.2) (sr_W C W (c j).2.2.2.2.2.2.1) L sc tb FC FV mt M' ∧ hi_E M M')) (fun _ _ _ => False) 1 6) := by
  obtain ⟨pa, pb, pc, hT⟩ := h.2.1 j hj
  have hT : cw_T j (up j) (lf j) (m j) (c j) (s j) M pa pb pc := hT
  have hT' := hT
  obtain ⟨oa, ob, oc, n1, n2, n3, p3, p4, p5, f0, f1, f2, hm, hs, hc⟩ := hT'
  obtain ⟨w, hpw, hw⟩ := h.2.2.1
  have hP := h.1
  have hM := cwO_M hj oa
  have hC := cwO_M hj oc
  have ia := cwO_in oa
  have ib := cwO_in ob
  have ic := cwO_in oc
  refine fx_post (x_write_seal (n := 630) htr (by decide) hj hM hC n2 p3 p4 p5 f0 (hP.2.2.2.2 pa hM) (hP.2.2.2.2 pc hC) hP.2.2.2.1 hpw (hm hu) (hc (by omega)) hw h.2.2.2.1 hs9 hP.1 (cwT_u hT hu) f2 hl1 hl9 hv1 hvl) (fun r n' M' q => ⟨q.1, q.2.1, ?_, ?_⟩)
  · obtain ⟨-, -, q1, q2, q3, q4, q5, q6, q7, q8, q9, q10, q11, q12⟩ := q
    have e1 : ∀ q, q ≠ 90 + 124 * j → q ≠ pa + 3 → q ≠ 67 → q ≠ 68 → (q < 16 ∨ 60 ≤ q) → M'.1 q = M.1 q := fun q a b d g k => q12 q b d g a k
    obtain ⟨h1, h2, h3, h4, h5, h6⟩ := h
    refine ⟨cwP_of (fun q _ _ a _ => q7 q (a j hj)) h1, fun i hi => ?_, ⟨w, ?_, q3⟩, q4, cwF_of (fun q a b => e1 q (by omega) (by omega) (by omega) (by omega) (by omega)) h5, cwK_of (by rw [e1 8 (by omega) (by omega) (by decide) (by decide) (by decide)]) (fun q a => e1 q (by omega) (by omega) (by omega) (by omega) (by omega)) (fun q a b => q7 q (by omega)) h6⟩
    · by_cases g : i = j
      · subst g
        rw [fm_upS, fm_upS, fm_upS]
        exact ⟨pa, pc, pb, oa, oc, ob, n2, n1, Ne.symm n3, by rw [q8 3 (by decide) (by decide)]; exact p3, q5, q6, (q11 0 (by decide)).trans f0, (q11 1 (by decide)).trans f1, q10, fun _ => q1, q2, fun g => absurd rfl g⟩
      · rw [fm_upN g, fm_upN g, fm_upN g]
        exact cwS_of (fun q a b => ⟨e1 q (by omega) (by omega) (by omega) (by omega) (by omega), by rw [q9], q7 q (by omega)⟩) (h2 i hi)
    · unfold wi_P at hpw ⊢
      rw [q7 16 (by omega), q7 17 (by omega)]
      refine ⟨hpw.1, hpw.2.1, hpw.2.2.1, hpw.2.2.2.1, hpw.2.2.2.2.1, fun u hu => ?_⟩
      rw [q7 (18 + 2 * u) (by omega)]
      exact hpw.2.2.2.2.2 u hu
  · obtain ⟨-, -, q1, q2, q3, q4, q5, q6, q7, q8, q9, q10, q11, q12⟩ := q
    exact fun q a b => ⟨q12 q (by omega) (by omega) (by omega) (by omega) (by omega), by rw [q9], q7 q (by omega)⟩
end WOC
