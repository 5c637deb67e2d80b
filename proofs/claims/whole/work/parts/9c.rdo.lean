/-! THE REFERENCE: perform, as the agent's own words say -/
def rE_m (gi : Nat) (k : Nat) (v : Int32) (sd : Nat) (M : fm_M) : fm_M := match k with
  | 1 => fm_put1 (fm_put1 M 603 (16 * gi + sd) v) 602 gi (nI (sd + 1))
  | 2 => fm_put1 (fm_put1 (fm_put1 M 597 gi (nI 2)) 598 gi v) 601 gi v
  | 4 => fm_put1 M 586 50 (nI 1)
  | _ => M
def rE_f (k : Nat) (v : Int32) (sd : Nat) (M : fm_M) : fm_M := match k with
  | 1 => fm_put1 (fm_put1 M 628 sd v) 586 48 (nI (sd + 1))
  | 2 => fm_put1 M 586 46 v
  | 4 => fm_put1 M 586 50 (nI 1)
  | _ => M
abbrev F_m : Nat → Prop := fun _ => True
abbrev F_f : Nat → Prop := fun k => k ≠ 4 ∧ k ≠ 6
def rQ_m (gi : Nat) (M : fm_M) (A : ag_T) (dd : Nat × Int32 × ag_T) (M' : fm_M) : Prop := (∃ g', hr_G M' gi F_m dd.2.2 g') ∧ (dd.1 ≠ 3 → fr_W gi (rE_m gi dd.1 dd.2.1 (A.1 5) M) M') ∧ (dd.1 = 3 → ∃ M1, mv_R (gi + 4) M M1 ∧ fr_W gi (m_arrive M1 (gi + 4) (nI 0) (-1)) M' ∧ (∃ g', hr_G M' (gi + 4) F_m (ag_kid (A.1, A.2.1.take (A.2.1.length - 1), A.2.2) dd.2.1.toInt.toNat) g') ∧ M'.1 611 (gi + 4) = nI 0)
def rQ_f (gi : Nat) (M : fm_M) (A : ag_T) (dd : Nat × Int32 × ag_T) (M' : fm_M) : Prop := (∃ g', hr_G M' gi F_f dd.2.2 g') ∧ (dd.1 ≠ 3 → fr_W gi (rE_f dd.1 dd.2.1 (A.1 5) M) M') ∧ (dd.1 = 3 → ∃ M1, mv_R 97 M M1 ∧ fr_W gi (fm_put1 M1 586 47 (nI 1)) M' ∧ (∃ g', hr_G M' 97 F_f (ag_kid (A.1, A.2.1.take (A.2.1.length - 1), A.2.2) dd.2.1.toInt.toNat) g') ∧ M'.1 611 97 = nI 0)
theorem frW_put {gi : Nat} {M M1 : fm_M} {o j : Nat} {v : Int32} (h : fr_W gi M M1) : fr_W gi (fm_put1 M o j v) (fm_put1 M1 o j v) := by
  refine ⟨h.1, fun q i a b c d => ?_, h.2.2⟩
  by_cases e : q = o
  · subst e
    by_cases e2 : i = j
    · subst e2
      rw [p1_same, p1_same]
    · rw [p1_at e2, p1_at e2]
      exact h.2.1 q i a b c d
  · rw [p1_other e, p1_other e]
    exact h.2.1 q i a b c d
theorem no3 {a : Nat} {q : Prop} (h : a = 3) (hn : Nat.beq a 3 = false) : q := by
  subst h
  cases hn
theorem hrG_mask {M : fm_M} {r k v : Nat} {F : Nat → Prop} {N : Nat → Nat} {q : List bf_V × List (bf_V × bf_V)} {g : Nat → Nat} (hF : ¬ F k) (h : hr_G M r F (N, q) g) : hr_G M r F (va_up N k v, q) g :=
  ⟨fun j a b f => (h.1 j a b f).trans (by show nI (N j) = nI (va_up N k v j); rw [fm_upN (show j ≠ k from fun e => hF (e ▸ f))]), h.2⟩
theorem hrG_skip {M : fm_M} {r k : Nat} {z : Int32} {F : Nat → Prop} {A : ag_T} {g : Nat → Nat} (hF : ¬ F k) (hk : k < 8) (h : hr_G M r F A g) : hr_G (fm_put1 M (604 + k) r z) r F A g := by
  obtain ⟨h1, h2, h3, h4, h5, h6⟩ := h
  exact ⟨fun j a b f => (p1_other (fun e => hF (by rw [← show j = k by omega]; exact f))).trans (h1 j a b f), (p1_other (by omega)).trans h2, h3, h4, h5, h6⟩
theorem map_inj {n : Nat} {g : Nat → Nat} (hi : bf_inj (fun a => a < n) g) {v w : bf_V} (hv : ag_in n v) (hw : ag_in n w) (h : bf_map g v = bf_map g w) : v = w := by
  cases v with
  | inl a => cases w with
    | inl c => exact h
    | inr c => cases h
  | inr a => cases w with
    | inl c => cases h
    | inr c =>
      have e : g a = g c := Sum.inr.inj h
      rw [hi a c hv hw e]
theorem rc_do_m {l : Launch} {b : Nat} {x : Nat → Nat} {D : va_G} {dA : Nat → ClassId} {gi he c y n : Nat} {N : Nat → Nat} {s0 : List bf_V} {p : List (bf_V × bf_V)} {g : Nat → Nat} {tbl : Nat → Int32} {M : fm_M} (hn : 629 ≤ n) (hR : fm_RP M) (hh : he < 4) (hg9 : gi < 96) (hN0 : 4 ≤ N 0 ↔ 4 ≤ gi % 8) (h : hr_G M gi F_m (N, s0, p) g) (ok : ag_ok (N, s0, p)) (hca : ag_can (N, s0, p) = (N, s0, p)) (htb : ∀ k, k < 8 → M.1 589 (8 * he + k) = tbl k) (h3 : N 3 < 1000) (h5 : N 5 < 1000) (h7 : N 7 ≤ 1) (hc20 : c < 20) (hy2 : y < 256) (ht : ag_takes c (N, s0, p) = true) (hb : ag_bnd c y (N, s0, p) = true) : Met l y_Mo_perform (Cond.code y_Mo_perform b_Mo_perform 5 none :: fm_T0) ({ frames := 6, cells := 0, slots := 0, locals := 170 }) (fm_Pc fm_lay fm_nf fm_fk fm_cl b x D dA (fm_tys dA) (fm_EX b x) false [.ref 586, .int (nI gi), .int (nI he), .int (nI c), .int (nI y)] n M) (fm_Qc fm_lay fm_nf fm_fk fm_cl b x D dA (fun r n' M' => r = none ∧ n' = n ∧ rQ_m gi M (N, s0, p) (ag_do c y tbl he N (s0.take (s0.length - ag_tk c)) p (ag_low c (N, s0, p)) (ag_upp (N, s0, p))) M')) 0 0 (fm_A b) := by
  have hg : gi < 98 := by omega
  obtain ⟨l1, l2, lk⟩ := take_len ht
  have l1 : ag_tk c ≤ s0.length := l1
  have l2 : s0.length - ag_tk c + ag_gv c ≤ 6 := l2
  have hd : M.1 612 gi = nI s0.length := h.2.1
  have h6 : s0.length ≤ 6 := ok.1
  have hin := fun q => lu_in ok ht (c := c) q
  have xu : 1 ≤ s0.length → M.2.1 613 (6 * gi + (s0.length - 1)) = e64 (bf_map g (ag_upp (N, s0, p))) := fun q => h.2.2.2.2.1 _ _ (getD_mem (s := s0) (k := s0.length - 1) (by omega)).1
  have xl : 2 ≤ s0.length → M.2.1 613 (6 * gi + (s0.length - 1 - 1)) = e64 (bf_map g (s0.getD (s0.length - 1 - 1) (.inl 0))) := fun q => h.2.2.2.2.1 _ _ (getD_mem (s := s0) (k := s0.length - 1 - 1) (by omega)).1
  have T1 : 1 ≤ s0.length → hr_G (fm_put1 M 612 gi (nI (s0.length - 1))) gi F_m (N, s0.take (s0.length - 1), p) g := fun q => hrG_take (by omega) h
  have T2 : 2 ≤ s0.length → hr_G (fm_put1 (fm_put1 M 612 gi (nI (s0.length - 1))) 612 gi (nI (s0.length - 1 - 1))) gi F_m (N, s0.take (s0.length - 2), p) g := fun q => by
    have k := hrG_take (d := s0.length - 1 - 1) (by rw [List.length_take]; omega) (T1 (by omega))
    rw [List.take_take, Nat.min_eq_left (by omega)] at k
    exact k
  have e1 : (s0.take (s0.length - 1)).length = s0.length - 1 := by rw [List.length_take]; omega
  have e2 : (s0.take (s0.length - 2)).length = s0.length - 1 - 1 := by rw [List.length_take]; omega
  have e0 : s0.take (s0.length - 0) = s0 := List.take_length
  rcases (show c = 0 ∨ c = 1 ∨ c = 2 ∨ c = 3 ∨ c = 4 ∨ c = 5 ∨ c = 6 ∨ c = 7 ∨ c = 8 ∨ c = 9 ∨ c = 10 ∨ c = 11 ∨ c = 12 ∨ c = 13 ∨ c = 14 ∨ c = 15 ∨ c = 16 ∨ c = 17 ∨ c = 18 ∨ c = 19 by omega) with rfl | rfl | rfl | rfl | rfl | rfl | rfl | rfl | rfl | rfl | rfl | rfl | rfl | rfl | rfl | rfl | rfl | rfl | rfl | rfl
  · have z : True := trivial
    refine fm_post (rq_0 hn hR hg hd h6) (fun r n' M' hp => ⟨hp.1, hp.2.1, ?_⟩)
    rw [hp.2.2]
    show rQ_m gi M (N, s0, p) (4, 0, N, s0.take (s0.length - 0), p) _
    rw [e0]
    exact ⟨⟨g, hrG_o1 (Or.inl (by decide)) h⟩, fun _ => frW_rf gi _, fun e => no3 e rfl⟩
  · have d5 : s0.length < 6 := Nat.lt_of_succ_le (show s0.length - 0 + 1 ≤ 6 from l2)
    by_cases g1 : y ≤ 127
    · have z : True := trivial
      refine fm_post (rq_1a hn hR hg hd h6 d5 g1) (fun r n' M' hp => ⟨hp.1, hp.2.1, ?_⟩)
      rw [hp.2.2]
      show rQ_m gi M (N, s0, p) (0, 0, N, s0.take (s0.length - 0) ++ [.inl (nI y).toInt8.toInt32], p) _
      rw [e0]
      exact ⟨⟨g, hrG_push rfl rfl h⟩, fun _ => (frW_p1 (Or.inl ⟨by decide, by decide, rfl⟩) (frW_p2 (Or.inl ⟨rfl, by omega, by omega⟩) (frW_rf gi M))), fun e => no3 e rfl⟩
    · have z : True := trivial
      refine fm_post (rq_1b hn hR hg hd h6 d5 hy2 g1) (fun r n' M' hp => ⟨hp.1, hp.2.1, ?_⟩)
      rw [hp.2.2]
      show rQ_m gi M (N, s0, p) (0, 0, N, s0.take (s0.length - 0) ++ [.inl (nI y).toInt8.toInt32], p) _
      rw [e0]
      exact ⟨⟨g, hrG_push rfl rfl h⟩, fun _ => (frW_p1 (Or.inl ⟨by decide, by decide, rfl⟩) (frW_p2 (Or.inl ⟨rfl, by omega, by omega⟩) (frW_rf gi M))), fun e => no3 e rfl⟩
  · have d2 : 2 ≤ s0.length := l1
    obtain ⟨v, hv⟩ := kind_int (lk (by decide)).2
    obtain ⟨a, ha⟩ := kind_int (lk (by decide)).1
    have hu : M.2.1 613 (6 * gi + (s0.length - 1)) = v.toInt64 := by rw [xu (by omega), hv]; rfl
    have hl : M.2.1 613 (6 * gi + (s0.length - 1 - 1)) = a.toInt64 := by rw [xl d2, show s0.getD (s0.length - 1 - 1) (.inl 0) = .inl a from ha]; rfl
    refine fm_post (rq_2 hn hR hg hd h6 d2 hu hl) (fun r n' M' hp => ⟨hp.1, hp.2.1, ?_⟩)
    rw [hp.2.2]
    show rQ_m gi M (N, s0, p) (0, 0, N, s0.take (s0.length - 2) ++ [.inl (ag_int (ag_low 2 (N, s0, p)) + ag_int (ag_upp (N, s0, p)))], p) _
    rw [hv, ha]
    exact ⟨⟨g, hrG_push e2 rfl (T2 d2)⟩, fun _ => (frW_p1 (Or.inl ⟨by decide, by decide, rfl⟩) (frW_p2 (Or.inl ⟨rfl, by omega, by omega⟩) (frW_p1 (Or.inl ⟨by decide, by decide, rfl⟩) (frW_p1 (Or.inl ⟨by decide, by decide, rfl⟩) (frW_rf gi M))))), fun e => no3 e rfl⟩
  · have d2 : 2 ≤ s0.length := l1
    obtain ⟨v, hv⟩ := kind_int (lk (by decide)).2
    obtain ⟨a, ha⟩ := kind_int (lk (by decide)).1
    have hu : M.2.1 613 (6 * gi + (s0.length - 1)) = v.toInt64 := by rw [xu (by omega), hv]; rfl
    have hl : M.2.1 613 (6 * gi + (s0.length - 1 - 1)) = a.toInt64 := by rw [xl d2, show s0.getD (s0.length - 1 - 1) (.inl 0) = .inl a from ha]; rfl
    refine fm_post (rq_3 hn hR hg hd h6 d2 hu hl) (fun r n' M' hp => ⟨hp.1, hp.2.1, ?_⟩)
    rw [hp.2.2]
    show rQ_m gi M (N, s0, p) (0, 0, N, s0.take (s0.length - 2) ++ [.inl (ag_int (ag_low 3 (N, s0, p)) - ag_int (ag_upp (N, s0, p)))], p) _
    rw [hv, ha]
    exact ⟨⟨g, hrG_push e2 rfl (T2 d2)⟩, fun _ => (frW_p1 (Or.inl ⟨by decide, by decide, rfl⟩) (frW_p2 (Or.inl ⟨rfl, by omega, by omega⟩) (frW_p1 (Or.inl ⟨by decide, by decide, rfl⟩) (frW_p1 (Or.inl ⟨by decide, by decide, rfl⟩) (frW_rf gi M))))), fun e => no3 e rfl⟩
  · have d2 : 2 ≤ s0.length := l1
    obtain ⟨v, hv⟩ := kind_int (lk (by decide)).2
    obtain ⟨a, ha⟩ := kind_int (lk (by decide)).1
    have hu : M.2.1 613 (6 * gi + (s0.length - 1)) = v.toInt64 := by rw [xu (by omega), hv]; rfl
    have hl : M.2.1 613 (6 * gi + (s0.length - 1 - 1)) = a.toInt64 := by rw [xl d2, show s0.getD (s0.length - 1 - 1) (.inl 0) = .inl a from ha]; rfl
    refine fm_post (rq_4 hn hR hg hd h6 d2 hu hl) (fun r n' M' hp => ⟨hp.1, hp.2.1, ?_⟩)
    rw [hp.2.2]
    show rQ_m gi M (N, s0, p) (0, 0, N, s0.take (s0.length - 2) ++ [.inl (ag_int (ag_low 4 (N, s0, p)) * ag_int (ag_upp (N, s0, p)))], p) _
    rw [hv, ha]
    exact ⟨⟨g, hrG_push e2 rfl (T2 d2)⟩, fun _ => (frW_p1 (Or.inl ⟨by decide, by decide, rfl⟩) (frW_p2 (Or.inl ⟨rfl, by omega, by omega⟩) (frW_p1 (Or.inl ⟨by decide, by decide, rfl⟩) (frW_p1 (Or.inl ⟨by decide, by decide, rfl⟩) (frW_rf gi M))))), fun e => no3 e rfl⟩
  · have d5 : s0.length < 6 := Nat.lt_of_succ_le (show s0.length - 0 + 1 ≤ 6 from l2)
    have hyl : y < s0.length := by simpa [ag_bnd] using hb
    refine fm_post (rq_5 hn hR hg hd h6 d5 hyl) (fun r n' M' hp => ⟨hp.1, hp.2.1, ?_⟩)
    rw [hp.2.2]
    show rQ_m gi M (N, s0, p) (0, 0, N, s0.take (s0.length - 0) ++ [(s0.take (s0.length - 0)).getD ((s0.take (s0.length - 0)).length - 1 - y) (.inl 0)], p) _
    rw [e0]
    exact ⟨⟨g, hrG_push rfl (hrG_at h hyl).symm h⟩, fun _ => (frW_p1 (Or.inl ⟨by decide, by decide, rfl⟩) (frW_p2 (Or.inl ⟨rfl, by omega, by omega⟩) (frW_rf gi M))), fun e => no3 e rfl⟩
  · have d1 : 1 ≤ s0.length := l1
    refine fm_post (rq_6 hn hR hg hd h6 d1) (fun r n' M' hp => ⟨hp.1, hp.2.1, ?_⟩)
    rw [hp.2.2]
    show rQ_m gi M (N, s0, p) (0, 0, N, s0.take (s0.length - 1), p) _
    exact ⟨⟨g, T1 d1⟩, fun _ => (frW_p1 (Or.inl ⟨by decide, by decide, rfl⟩) (frW_rf gi M)), fun e => no3 e rfl⟩
  · have d5 : s0.length < 6 := Nat.lt_of_succ_le (show s0.length - 0 + 1 ≤ 6 from l2)
    have hy8 : y < 8 := by simpa [ag_bnd] using hb
    refine fm_post (rq_7m hn hR hg hd h6 d5 hh hy8) (fun r n' M' hp => ⟨hp.1, hp.2.1, ?_⟩)
    rw [hp.2.2]
    show rQ_m gi M (N, s0, p) (0, 0, N, s0.take (s0.length - 0) ++ [.inl (tbl y)], p) _
    rw [e0, htb y hy8]
    exact ⟨⟨g, hrG_push rfl rfl h⟩, fun _ => (frW_p1 (Or.inl ⟨by decide, by decide, rfl⟩) (frW_p2 (Or.inl ⟨rfl, by omega, by omega⟩) (frW_rf gi M))), fun e => no3 e rfl⟩
  · have d1 : 1 ≤ s0.length := l1
    obtain ⟨v, hv⟩ := kind_int (lk (by decide)).2
    have hu : M.2.1 613 (6 * gi + (s0.length - 1)) = v.toInt64 := by rw [xu d1, hv]; rfl
    have h16 : N 5 < 16 := by simpa [ag_bnd] using hb
    refine fm_post (rq_8m hn hR hg hd h6 d1 hu hg9 hh (h.1 5 (by decide) (by decide) trivial) h16) (fun r n' M' hp => ⟨hp.1, hp.2.1, ?_⟩)
    rw [hp.2.2]
    show rQ_m gi M (N, s0, p) (1, ag_int (ag_upp (N, s0, p)), va_up N 5 (N 5 + 1), s0.take (s0.length - 1), p) _
    rw [hv]
    exact ⟨⟨g, hrG_o1 (Or.inl (by decide)) (hrG_num (k := 5) (by decide) (by decide) (hrG_o1 (Or.inl (by decide)) (T1 d1)))⟩, fun _ => frW_put (frW_p1 (Or.inl ⟨by decide, by decide, rfl⟩) (frW_put (frW_p1 (Or.inl ⟨by decide, by decide, rfl⟩) (frW_rf gi M)))), fun e => no3 e rfl⟩
  · have d1 : 1 ≤ s0.length := l1
    obtain ⟨v, hv⟩ := kind_int (lk (by decide)).2
    have hu : M.2.1 613 (6 * gi + (s0.length - 1)) = v.toInt64 := by rw [xu d1, hv]; rfl
    by_cases g1 : v = nI he
    · have z : True := trivial
      refine fm_post (rq_9s hn hR hg hd h6 d1 hu hg9 hh g1) (fun r n' M' hp => ⟨hp.1, hp.2.1, ?_⟩)
      rw [hp.2.2]
      show rQ_m gi M (N, s0, p) (if ag_int (ag_upp (N, s0, p)) = nI he then (0, 0, N, s0.take (s0.length - 1), p) else (2, ag_int (ag_upp (N, s0, p)), va_up N 4 (N 4 + 1), s0.take (s0.length - 1), p)) _
      rw [hv, if_pos (show ag_int (.inl v) = nI he from g1)]
      exact ⟨⟨g, T1 d1⟩, fun _ => (frW_p1 (Or.inl ⟨by decide, by decide, rfl⟩) (frW_rf gi M)), fun e => no3 e rfl⟩
    · have z : True := trivial
      refine fm_post (rq_9m hn hR hg hd h6 d1 hu hg9 hh (h.1 4 (by decide) (by decide) trivial) g1) (fun r n' M' hp => ⟨hp.1, hp.2.1, ?_⟩)
      rw [hp.2.2]
      show rQ_m gi M (N, s0, p) (if ag_int (ag_upp (N, s0, p)) = nI he then (0, 0, N, s0.take (s0.length - 1), p) else (2, ag_int (ag_upp (N, s0, p)), va_up N 4 (N 4 + 1), s0.take (s0.length - 1), p)) _
      rw [hv, if_neg (show ¬ ag_int (.inl v) = nI he from g1)]
      exact ⟨⟨g, hrG_o1 (Or.inl (by decide)) (hrG_o1 (Or.inl (by decide)) (hrG_o1 (Or.inl (by decide)) (hrG_num (k := 4) (by decide) (by decide) (T1 d1))))⟩, fun _ => frW_put (frW_put (frW_put (frW_p1 (Or.inl ⟨by decide, by decide, rfl⟩) (frW_p1 (Or.inl ⟨by decide, by decide, rfl⟩) (frW_rf gi M))))), fun e => no3 e rfl⟩
  · have z : True := trivial
    refine fm_post (rq_10 hn hR hg hd h6) (fun r n' M' hp => ⟨hp.1, hp.2.1, ?_⟩)
    rw [hp.2.2]
    show rQ_m gi M (N, s0, p) (0, 0, va_up N 2 y, s0.take (s0.length - 0), p) _
    rw [e0]
    exact ⟨⟨g, hrG_num (k := 2) (by decide) (by decide) h⟩, fun _ => (frW_p1 (Or.inl ⟨by decide, by decide, rfl⟩) (frW_rf gi M)), fun e => no3 e rfl⟩
  · have d1 : 1 ≤ s0.length := l1
    obtain ⟨v, hv⟩ := kind_int (lk (by decide)).2
    have hu : M.2.1 613 (6 * gi + (s0.length - 1)) = v.toInt64 := by rw [xu d1, hv]; rfl
    by_cases g1 : v = 0
    · have z : True := trivial
      refine fm_post (rq_11z hn hR hg hd h6 d1 hu g1) (fun r n' M' hp => ⟨hp.1, hp.2.1, ?_⟩)
      rw [hp.2.2]
      show rQ_m gi M (N, s0, p) (0, 0, if ag_int (ag_upp (N, s0, p)) = 0 then N else va_up N 2 y, s0.take (s0.length - 1), p) _
      rw [hv, if_pos (show ag_int (.inl v) = 0 from g1)]
      exact ⟨⟨g, T1 d1⟩, fun _ => (frW_p1 (Or.inl ⟨by decide, by decide, rfl⟩) (frW_rf gi M)), fun e => no3 e rfl⟩
    · have z : True := trivial
      refine fm_post (rq_11 hn hR hg hd h6 d1 hu g1) (fun r n' M' hp => ⟨hp.1, hp.2.1, ?_⟩)
      rw [hp.2.2]
      show rQ_m gi M (N, s0, p) (0, 0, if ag_int (ag_upp (N, s0, p)) = 0 then N else va_up N 2 y, s0.take (s0.length - 1), p) _
      rw [hv, if_neg (show ¬ ag_int (.inl v) = 0 from g1)]
      exact ⟨⟨g, hrG_num (k := 2) (by decide) (by decide) (T1 d1)⟩, fun _ => (frW_p1 (Or.inl ⟨by decide, by decide, rfl⟩) (frW_p1 (Or.inl ⟨by decide, by decide, rfl⟩) (frW_rf gi M))), fun e => no3 e rfl⟩
  · have d1 : 1 ≤ s0.length := l1
    obtain ⟨v, hv⟩ := kind_int (lk (by decide)).2
    have hu : M.2.1 613 (6 * gi + (s0.length - 1)) = v.toInt64 := by rw [xu d1, hv]; rfl
    have REF : ∀ (kk : 4 ≤ N 0 ∨ N 7 ≠ 0 ∨ v < 1 ∨ nI (N 3) < v) (hcl : Met l y_Mo_cloning (Cond.code y_Mo_cloning b_Mo_cloning 6 none :: fm_T0) ({ frames := 2, cells := 0, slots := 0, locals := 60 }) (fm_Pc fm_lay fm_nf fm_fk fm_cl b x D dA (fm_tys dA) (fm_EX b x) false [.ref 586, .int (nI gi), .int (nI he), .int v] n (fm_put1 M 612 gi (nI (s0.length - 1)))) (fm_Qc fm_lay fm_nf fm_fk fm_cl b x D dA (fun r n' M' => r = none ∧ n' = n ∧ M' = fm_put1 (fm_put2 (fm_put1 M 612 gi (nI (s0.length - 1))) 613 (6 * gi + (s0.length - 1)) (-1)) 612 gi (nI (s0.length - 1 + 1)))) 0 0 (fm_A b)), Met l y_Mo_perform (Cond.code y_Mo_perform b_Mo_perform 5 none :: fm_T0) ({ frames := 6, cells := 0, slots := 0, locals := 170 }) (fm_Pc fm_lay fm_nf fm_fk fm_cl b x D dA (fm_tys dA) (fm_EX b x) false [.ref 586, .int (nI gi), .int (nI he), .int (nI 12), .int (nI y)] n M) (fm_Qc fm_lay fm_nf fm_fk fm_cl b x D dA (fun r n' M' => r = none ∧ n' = n ∧ rQ_m gi M (N, s0, p) (ag_do 12 y tbl he N (s0.take (s0.length - ag_tk 12)) p (ag_low 12 (N, s0, p)) (ag_upp (N, s0, p))) M')) 0 0 (fm_A b) := by
      intro kk hcl
      refine fm_post (rq_12 (PR := fun M' => M' = fm_put1 (fm_put2 (fm_put1 M 612 gi (nI (s0.length - 1))) 613 (6 * gi + (s0.length - 1)) (-1)) 612 gi (nI (s0.length - 1 + 1))) hn hR hg hd h6 d1 hu hcl) (fun r n' M' hp => ⟨hp.1, hp.2.1, ?_⟩)
      rw [hp.2.2]
      show rQ_m gi M (N, s0, p) (if 4 ≤ N 0 ∨ N 7 ≠ 0 ∨ ag_int (ag_upp (N, s0, p)) < 1 ∨ nI (N 3) < ag_int (ag_upp (N, s0, p)) then (0, 0, N, s0.take (s0.length - 1) ++ [.inl (-1)], p) else (3, ag_int (ag_upp (N, s0, p)), va_up (va_up N 3 (N 3 - (ag_int (ag_upp (N, s0, p))).toInt.toNat)) 7 1, s0.take (s0.length - 1) ++ [.inl 0], p)) _
      rw [hv, if_pos (show 4 ≤ N 0 ∨ N 7 ≠ 0 ∨ ag_int (.inl v) < 1 ∨ nI (N 3) < ag_int (.inl v) from kk)]
      exact ⟨⟨g, hrG_push e1 rfl (T1 d1)⟩, fun _ => (frW_p1 (Or.inl ⟨by decide, by decide, rfl⟩) (frW_p2 (Or.inl ⟨rfl, by omega, by omega⟩) (frW_p1 (Or.inl ⟨by decide, by decide, rfl⟩) (frW_rf gi M)))), fun e => no3 e rfl⟩
    by_cases g1 : 4 ≤ N 0
    · exact REF (Or.inl g1) (rc_cl_m1 (M := fm_put1 M 612 gi (nI (s0.length - 1))) (d := s0.length - 1) hn hR hg (p1_same _ _ _ _) (show s0.length - 1 < 6 by omega) hh (hN0.mp g1))
    · have gp : gi % 8 < 4 := by have := mt hN0.mpr g1; omega
      by_cases g2 : N 7 = 0
      · by_cases g3 : v < 1
        · exact REF (Or.inr (Or.inr (Or.inl g3))) (rc_cl_m3 (M := fm_put1 M 612 gi (nI (s0.length - 1))) (d := s0.length - 1) hn hR hg (p1_same _ _ _ _) (show s0.length - 1 < 6 by omega) hh gp ((T1 d1).1 7 (by decide) (by decide) trivial) h7 g2 g3)
        · by_cases g4 : nI (N 3) < v
          · exact REF (Or.inr (Or.inr (Or.inr g4))) (rc_cl_m4 (M := fm_put1 M 612 gi (nI (s0.length - 1))) (d := s0.length - 1) hn hR hg (p1_same _ _ _ _) (show s0.length - 1 < 6 by omega) hh gp ((T1 d1).1 7 (by decide) (by decide) trivial) h7 g2 g3 ((T1 d1).1 3 (by decide) (by decide) trivial) g4)
          · obtain ⟨k1, k2, k3⟩ := toN_of (v := v) (a := 1) (c := N 3) (lo := 1) (hi := nI (N 3)) rfl (nI_int (by omega)) ⟨g3, g4⟩
            generalize hw : v.toInt.toNat = w at k1 k2 k3
            have hcl := rc_clone_m (l := l) (b := b) (x := x) (D := D) (dA := dA) (he := he) (w := w) hn (M := fm_put1 M 612 gi (nI (s0.length - 1))) hR hh hg9 gp (T1 d1) (ok_take (N := N) (s0.length - 1) ok) (by rw [e1]; omega) trivial trivial g2 k2 k3 h3
            rw [← k1] at hcl
            refine fm_post (rq_12 hn hR hg hd h6 d1 hu hcl) (fun r n' M' hp => ⟨hp.1, hp.2.1, ?_⟩)
            obtain ⟨M1, m1, m2, m3, m4, m5⟩ := hp.2.2
            show rQ_m gi M (N, s0, p) (if 4 ≤ N 0 ∨ N 7 ≠ 0 ∨ ag_int (ag_upp (N, s0, p)) < 1 ∨ nI (N 3) < ag_int (ag_upp (N, s0, p)) then (0, 0, N, s0.take (s0.length - 1) ++ [.inl (-1)], p) else (3, ag_int (ag_upp (N, s0, p)), va_up (va_up N 3 (N 3 - (ag_int (ag_upp (N, s0, p))).toInt.toNat)) 7 1, s0.take (s0.length - 1) ++ [.inl 0], p)) _
            rw [hv, if_neg (show ¬ (4 ≤ N 0 ∨ N 7 ≠ 0 ∨ ag_int (.inl v) < 1 ∨ nI (N 3) < ag_int (.inl v)) from fun q => q.elim g1 (fun q => q.elim (fun q => q g2) (fun q => q.elim g3 g4)))]
            have hwv : (ag_int (.inl v)).toInt.toNat = w := hw
            refine ⟨⟨g, by rw [hwv]; exact m3⟩, fun e => absurd rfl e, fun _ => ?_⟩
            refine ⟨fm_put1 M1 612 gi (M.1 612 gi), ?_, ?_, ⟨g, ?_⟩, m5⟩
            · refine ⟨m1.1, fun o j a => ?_, m1.2.2⟩
              by_cases e : o = 612 ∧ j = gi
              · rw [e.1, e.2, p1_same]
              · have key : (fm_put1 M1 612 gi (M.1 612 gi)).1 o j = M1.1 o j := by
                  by_cases e3 : o = 612
                  · subst e3
                    exact p1_at (fun q => e ⟨rfl, q⟩)
                  · exact p1_other e3
                rw [key, m1.2.1 o j a]
                by_cases e3 : o = 612
                · subst e3
                  exact p1_at (fun q => e ⟨rfl, q⟩)
                · exact p1_other e3
            · refine frW_tr ?_ m2
              exact frW_put (frW_put (frW_put ⟨rfl, fun o j a _ _ _ => (by
                by_cases e3 : o = 612
                · subst e3
                  exact (p1_at (fun q => a ⟨by decide, by decide, q⟩)).symm
                · exact (p1_other e3).symm), fun _ _ _ _ _ _ => rfl⟩))
            · show hr_G M' (gi + 4) F_m (ag_kid (N, s0.take (s0.length - 1), p) (ag_int (.inl v)).toInt.toNat) g
              rw [hwv]
              exact m4
      · exact REF (Or.inr (Or.inl g2)) (rc_cl_m2 (M := fm_put1 M 612 gi (nI (s0.length - 1))) (d := s0.length - 1) hn hR hg (p1_same _ _ _ _) (show s0.length - 1 < 6 by omega) hh gp ((T1 d1).1 7 (by decide) (by decide) trivial) h7 g2)
  · have d1 : 1 ≤ s0.length := l1
    obtain ⟨v, hv⟩ := kind_int (lk (by decide)).2
    have hu : M.2.1 613 (6 * gi + (s0.length - 1)) = v.toInt64 := by rw [xu d1, hv]; rfl
    have hbb : (decide (0 ≤ v) && decide (v ≤ 20)) = true := by
      have k : (decide (0 ≤ ag_int (ag_upp (N, s0, p))) && decide (ag_int (ag_upp (N, s0, p)) ≤ 20)) = true := hb
      rw [hv] at k
      exact k
    obtain ⟨k1, -, -⟩ := toN_of (v := v) (a := 0) (c := 20) (lo := 0) (hi := 20) rfl rfl (by
      rw [Bool.and_eq_true, decide_eq_true_eq, decide_eq_true_eq] at hbb
      exact ⟨Int32.not_lt.mpr hbb.1, Int32.not_lt.mpr hbb.2⟩)
    refine fm_post (rq_13m hn hR hg hd h6 d1 hu hh) (fun r n' M' hp => ⟨hp.1, hp.2.1, ?_⟩)
    rw [hp.2.2]
    show rQ_m gi M (N, s0, p) (0, 0, va_up N 6 (ag_int (ag_upp (N, s0, p))).toInt.toNat, s0.take (s0.length - 1), p) _
    rw [hv]
    exact ⟨⟨g, (by have k := hrG_num (k := 6) (v := v.toInt.toNat) (by decide) (by decide) (T1 d1); rw [← k1] at k; exact k)⟩, fun _ => (frW_p1 (Or.inl ⟨by decide, by decide, rfl⟩) (frW_p1 (Or.inl ⟨by decide, by decide, rfl⟩) (frW_rf gi M))), fun e => no3 e rfl⟩
  · have h8 : p.length < 8 := by simpa [ag_bnd] using hb
    refine fm_post (rq_14 hn hR hg hd h6 (rc_newPair hn hR hg h ok hca l1 h8)) (fun r n' M' hp => ⟨hp.1, hp.2.1, ?_⟩)
    exact ⟨⟨id, hp.2.2.1⟩, fun _ => hp.2.2.2, fun e => no3 e rfl⟩
  · have d1 : 1 ≤ s0.length := l1
    obtain ⟨k, hk⟩ := kind_pair (lk (by decide)).2
    have hkl : k < p.length := by
      have := (hin (by decide)).2
      rw [hk] at this
      exact this
    have hu : M.2.1 613 (6 * gi + (s0.length - 1)) = 1099511627776 + (nI (g k)).toInt64 := by rw [xu d1, hk]; rfl
    refine fm_post (rq_15 hn hR hg hd h6 d1 hu (h.2.2.1 k hkl)) (fun r n' M' hp => ⟨hp.1, hp.2.1, ?_⟩)
    rw [hp.2.2]
    show rQ_m gi M (N, s0, p) (0, 0, N, s0.take (s0.length - 1) ++ [(ag_fn p (ag_prn (ag_low 15 (N, s0, p)))).1], p) _
    rw [show ag_low 15 (N, s0, p) = .inr k from hk]
    exact ⟨⟨g, hrG_push e1 (h.2.2.2.2.2 k _ (fn_get hkl)).1.symm (T1 d1)⟩, fun _ => (frW_p1 (Or.inl ⟨by decide, by decide, rfl⟩) (frW_p2 (Or.inl ⟨rfl, by omega, by omega⟩) (frW_p1 (Or.inl ⟨by decide, by decide, rfl⟩) (frW_rf gi M)))), fun e => no3 e rfl⟩
  · have d1 : 1 ≤ s0.length := l1
    obtain ⟨k, hk⟩ := kind_pair (lk (by decide)).2
    have hkl : k < p.length := by
      have := (hin (by decide)).2
      rw [hk] at this
      exact this
    have hu : M.2.1 613 (6 * gi + (s0.length - 1)) = 1099511627776 + (nI (g k)).toInt64 := by rw [xu d1, hk]; rfl
    refine fm_post (rq_16 hn hR hg hd h6 d1 hu (h.2.2.1 k hkl)) (fun r n' M' hp => ⟨hp.1, hp.2.1, ?_⟩)
    rw [hp.2.2]
    show rQ_m gi M (N, s0, p) (0, 0, N, s0.take (s0.length - 1) ++ [(ag_fn p (ag_prn (ag_low 16 (N, s0, p)))).2], p) _
    rw [show ag_low 16 (N, s0, p) = .inr k from hk]
    exact ⟨⟨g, hrG_push e1 (h.2.2.2.2.2 k _ (fn_get hkl)).2.symm (T1 d1)⟩, fun _ => (frW_p1 (Or.inl ⟨by decide, by decide, rfl⟩) (frW_p2 (Or.inl ⟨rfl, by omega, by omega⟩) (frW_p1 (Or.inl ⟨by decide, by decide, rfl⟩) (frW_rf gi M)))), fun e => no3 e rfl⟩
  · have d2 : 2 ≤ s0.length := l1
    obtain ⟨k, hk⟩ := kind_pair (lk (by decide)).1
    have hkl : k < p.length := by
      have := (hin (by decide)).1
      rw [hk] at this
      exact this
    have hgk := h.2.2.1 k hkl
    have hgk : g k < 9 := hgk
    have hl : M.2.1 613 (6 * gi + (s0.length - 1 - 1)) = 1099511627776 + (nI (g k)).toInt64 := by rw [xl d2, show s0.getD (s0.length - 1 - 1) (.inl 0) = .inr k from hk]; rfl
    refine fm_post (rq_17 hn hR hg hd h6 d2 hl hgk) (fun r n' M' hp => ⟨hp.1, hp.2.1, ?_⟩)
    rw [hp.2.2]
    show rQ_m gi M (N, s0, p) (0, 0, N, s0.take (s0.length - 2), p.set (ag_prn (ag_low 17 (N, s0, p))) (ag_upp (N, s0, p), (ag_fn p (ag_prn (ag_low 17 (N, s0, p)))).2)) _
    rw [show ag_low 17 (N, s0, p) = .inr k from hk]
    exact ⟨⟨g, hrG_set1 hkl (xu (by omega)).symm (T2 d2)⟩, fun _ => frW_p2 (Or.inr (Or.inl ⟨by decide, by omega, by omega⟩)) (frW_p1 (Or.inl ⟨by decide, by decide, rfl⟩) (frW_p1 (Or.inl ⟨by decide, by decide, rfl⟩) (frW_rf gi M))), fun e => no3 e rfl⟩
  · have d2 : 2 ≤ s0.length := l1
    obtain ⟨k, hk⟩ := kind_pair (lk (by decide)).1
    have hkl : k < p.length := by
      have := (hin (by decide)).1
      rw [hk] at this
      exact this
    have hgk := h.2.2.1 k hkl
    have hgk : g k < 9 := hgk
    have hl : M.2.1 613 (6 * gi + (s0.length - 1 - 1)) = 1099511627776 + (nI (g k)).toInt64 := by rw [xl d2, show s0.getD (s0.length - 1 - 1) (.inl 0) = .inr k from hk]; rfl
    refine fm_post (rq_18 hn hR hg hd h6 d2 hl hgk) (fun r n' M' hp => ⟨hp.1, hp.2.1, ?_⟩)
    rw [hp.2.2]
    show rQ_m gi M (N, s0, p) (0, 0, N, s0.take (s0.length - 2), p.set (ag_prn (ag_low 18 (N, s0, p))) ((ag_fn p (ag_prn (ag_low 18 (N, s0, p)))).1, ag_upp (N, s0, p))) _
    rw [show ag_low 18 (N, s0, p) = .inr k from hk]
    exact ⟨⟨g, hrG_set2 hkl (xu (by omega)).symm (T2 d2)⟩, fun _ => frW_p2 (Or.inr (Or.inl ⟨by decide, by omega, by omega⟩)) (frW_p1 (Or.inl ⟨by decide, by decide, rfl⟩) (frW_p1 (Or.inl ⟨by decide, by decide, rfl⟩) (frW_rf gi M))), fun e => no3 e rfl⟩
  · have d2 : 2 ≤ s0.length := l1
    have hiL := (hin (by decide)).1
    have hiU := (hin (by decide)).2
    by_cases g1 : ag_low 19 (N, s0, p) = ag_upp (N, s0, p)
    · have hx : M.2.1 613 (6 * gi + (s0.length - 1 - 1)) = M.2.1 613 (6 * gi + (s0.length - 1)) := by
        rw [xl d2, xu (by omega), ← g1]
        rfl
      refine fm_post (rq_19e hn hR hg hd h6 d2 hx) (fun r n' M' hp => ⟨hp.1, hp.2.1, ?_⟩)
      rw [hp.2.2]
      show rQ_m gi M (N, s0, p) (0, 0, N, s0.take (s0.length - 2) ++ [.inl (if ag_low 19 (N, s0, p) = ag_upp (N, s0, p) then 1 else 0)], p) _
      rw [if_pos g1]
      exact ⟨⟨g, hrG_push e2 rfl (T2 d2)⟩, fun _ => (frW_p1 (Or.inl ⟨by decide, by decide, rfl⟩) (frW_p2 (Or.inl ⟨rfl, by omega, by omega⟩) (frW_p1 (Or.inl ⟨by decide, by decide, rfl⟩) (frW_p1 (Or.inl ⟨by decide, by decide, rfl⟩) (frW_rf gi M))))), fun e => no3 e rfl⟩
    · have hx : ¬ M.2.1 613 (6 * gi + (s0.length - 1 - 1)) = M.2.1 613 (6 * gi + (s0.length - 1)) := by
        intro q
        rw [xl d2, xu (by omega)] at q
        exact g1 (map_inj h.2.2.2.1 hiL hiU (e64_inj (map_ok h hiL) (map_ok h hiU) q))
      refine fm_post (rq_19n hn hR hg hd h6 d2 hx) (fun r n' M' hp => ⟨hp.1, hp.2.1, ?_⟩)
      rw [hp.2.2]
      show rQ_m gi M (N, s0, p) (0, 0, N, s0.take (s0.length - 2) ++ [.inl (if ag_low 19 (N, s0, p) = ag_upp (N, s0, p) then 1 else 0)], p) _
      rw [if_neg g1]
      exact ⟨⟨g, hrG_push e2 rfl (T2 d2)⟩, fun _ => (frW_p1 (Or.inl ⟨by decide, by decide, rfl⟩) (frW_p2 (Or.inl ⟨rfl, by omega, by omega⟩) (frW_p1 (Or.inl ⟨by decide, by decide, rfl⟩) (frW_p1 (Or.inl ⟨by decide, by decide, rfl⟩) (frW_rf gi M))))), fun e => no3 e rfl⟩
theorem rc_do_f {l : Launch} {b : Nat} {x : Nat → Nat} {D : va_G} {dA : Nat → ClassId} {gi he c y n : Nat} {N : Nat → Nat} {s0 : List bf_V} {p : List (bf_V × bf_V)} {g : Nat → Nat} {tbl : Nat → Int32} {M : fm_M} (hn : 629 ≤ n) (hR : fm_RP M) (hfh : M.1 586 46 = nI he) (hh : he < 4) (hg9 : gi = 96 ∨ gi = 97) (hN0 : 4 ≤ N 0 ↔ gi = 97) (hfc : M.1 586 48 = nI (N 5)) (h : hr_G M gi F_f (N, s0, p) g) (ok : ag_ok (N, s0, p)) (hca : ag_can (N, s0, p) = (N, s0, p)) (htb : ∀ k, k < 8 → M.1 589 (8 * he + k) = tbl k) (h3 : N 3 < 1000) (h5 : N 5 < 1000) (h7 : N 7 ≤ 1) (hc20 : c < 20) (hy2 : y < 256) (ht : ag_takes c (N, s0, p) = true) (hb : ag_bnd c y (N, s0, p) = true) : Met l y_Mo_perform (Cond.code y_Mo_perform b_Mo_perform 5 none :: fm_T0) ({ frames := 6, cells := 0, slots := 0, locals := 170 }) (fm_Pc fm_lay fm_nf fm_fk fm_cl b x D dA (fm_tys dA) (fm_EX b x) false [.ref 586, .int (nI gi), .int (-1), .int (nI c), .int (nI y)] n M) (fm_Qc fm_lay fm_nf fm_fk fm_cl b x D dA (fun r n' M' => r = none ∧ n' = n ∧ rQ_f gi M (N, s0, p) (ag_do c y tbl he N (s0.take (s0.length - ag_tk c)) p (ag_low c (N, s0, p)) (ag_upp (N, s0, p))) M')) 0 0 (fm_A b) := by
  have hg : gi < 98 := by omega
  obtain ⟨l1, l2, lk⟩ := take_len ht
  have l1 : ag_tk c ≤ s0.length := l1
  have l2 : s0.length - ag_tk c + ag_gv c ≤ 6 := l2
  have hd : M.1 612 gi = nI s0.length := h.2.1
  have h6 : s0.length ≤ 6 := ok.1
  have hin := fun q => lu_in ok ht (c := c) q
  have xu : 1 ≤ s0.length → M.2.1 613 (6 * gi + (s0.length - 1)) = e64 (bf_map g (ag_upp (N, s0, p))) := fun q => h.2.2.2.2.1 _ _ (getD_mem (s := s0) (k := s0.length - 1) (by omega)).1
  have xl : 2 ≤ s0.length → M.2.1 613 (6 * gi + (s0.length - 1 - 1)) = e64 (bf_map g (s0.getD (s0.length - 1 - 1) (.inl 0))) := fun q => h.2.2.2.2.1 _ _ (getD_mem (s := s0) (k := s0.length - 1 - 1) (by omega)).1
  have T1 : 1 ≤ s0.length → hr_G (fm_put1 M 612 gi (nI (s0.length - 1))) gi F_f (N, s0.take (s0.length - 1), p) g := fun q => hrG_take (by omega) h
  have T2 : 2 ≤ s0.length → hr_G (fm_put1 (fm_put1 M 612 gi (nI (s0.length - 1))) 612 gi (nI (s0.length - 1 - 1))) gi F_f (N, s0.take (s0.length - 2), p) g := fun q => by
    have k := hrG_take (d := s0.length - 1 - 1) (by rw [List.length_take]; omega) (T1 (by omega))
    rw [List.take_take, Nat.min_eq_left (by omega)] at k
    exact k
  have e1 : (s0.take (s0.length - 1)).length = s0.length - 1 := by rw [List.length_take]; omega
  have e2 : (s0.take (s0.length - 2)).length = s0.length - 1 - 1 := by rw [List.length_take]; omega
  have e0 : s0.take (s0.length - 0) = s0 := List.take_length
  rcases (show c = 0 ∨ c = 1 ∨ c = 2 ∨ c = 3 ∨ c = 4 ∨ c = 5 ∨ c = 6 ∨ c = 7 ∨ c = 8 ∨ c = 9 ∨ c = 10 ∨ c = 11 ∨ c = 12 ∨ c = 13 ∨ c = 14 ∨ c = 15 ∨ c = 16 ∨ c = 17 ∨ c = 18 ∨ c = 19 by omega) with rfl | rfl | rfl | rfl | rfl | rfl | rfl | rfl | rfl | rfl | rfl | rfl | rfl | rfl | rfl | rfl | rfl | rfl | rfl | rfl
  · have z : True := trivial
    refine fm_post (rq_0 hn hR hg hd h6) (fun r n' M' hp => ⟨hp.1, hp.2.1, ?_⟩)
    rw [hp.2.2]
    show rQ_f gi M (N, s0, p) (4, 0, N, s0.take (s0.length - 0), p) _
    rw [e0]
    exact ⟨⟨g, hrG_o1 (Or.inl (by decide)) h⟩, fun _ => frW_rf gi _, fun e => no3 e rfl⟩
  · have d5 : s0.length < 6 := Nat.lt_of_succ_le (show s0.length - 0 + 1 ≤ 6 from l2)
    by_cases g1 : y ≤ 127
    · have z : True := trivial
      refine fm_post (rq_1a hn hR hg hd h6 d5 g1) (fun r n' M' hp => ⟨hp.1, hp.2.1, ?_⟩)
      rw [hp.2.2]
      show rQ_f gi M (N, s0, p) (0, 0, N, s0.take (s0.length - 0) ++ [.inl (nI y).toInt8.toInt32], p) _
      rw [e0]
      exact ⟨⟨g, hrG_push rfl rfl h⟩, fun _ => (frW_p1 (Or.inl ⟨by decide, by decide, rfl⟩) (frW_p2 (Or.inl ⟨rfl, by omega, by omega⟩) (frW_rf gi M))), fun e => no3 e rfl⟩
    · have z : True := trivial
      refine fm_post (rq_1b hn hR hg hd h6 d5 hy2 g1) (fun r n' M' hp => ⟨hp.1, hp.2.1, ?_⟩)
      rw [hp.2.2]
      show rQ_f gi M (N, s0, p) (0, 0, N, s0.take (s0.length - 0) ++ [.inl (nI y).toInt8.toInt32], p) _
      rw [e0]
      exact ⟨⟨g, hrG_push rfl rfl h⟩, fun _ => (frW_p1 (Or.inl ⟨by decide, by decide, rfl⟩) (frW_p2 (Or.inl ⟨rfl, by omega, by omega⟩) (frW_rf gi M))), fun e => no3 e rfl⟩
  · have d2 : 2 ≤ s0.length := l1
    obtain ⟨v, hv⟩ := kind_int (lk (by decide)).2
    obtain ⟨a, ha⟩ := kind_int (lk (by decide)).1
    have hu : M.2.1 613 (6 * gi + (s0.length - 1)) = v.toInt64 := by rw [xu (by omega), hv]; rfl
    have hl : M.2.1 613 (6 * gi + (s0.length - 1 - 1)) = a.toInt64 := by rw [xl d2, show s0.getD (s0.length - 1 - 1) (.inl 0) = .inl a from ha]; rfl
    refine fm_post (rq_2 hn hR hg hd h6 d2 hu hl) (fun r n' M' hp => ⟨hp.1, hp.2.1, ?_⟩)
    rw [hp.2.2]
    show rQ_f gi M (N, s0, p) (0, 0, N, s0.take (s0.length - 2) ++ [.inl (ag_int (ag_low 2 (N, s0, p)) + ag_int (ag_upp (N, s0, p)))], p) _
    rw [hv, ha]
    exact ⟨⟨g, hrG_push e2 rfl (T2 d2)⟩, fun _ => (frW_p1 (Or.inl ⟨by decide, by decide, rfl⟩) (frW_p2 (Or.inl ⟨rfl, by omega, by omega⟩) (frW_p1 (Or.inl ⟨by decide, by decide, rfl⟩) (frW_p1 (Or.inl ⟨by decide, by decide, rfl⟩) (frW_rf gi M))))), fun e => no3 e rfl⟩
  · have d2 : 2 ≤ s0.length := l1
    obtain ⟨v, hv⟩ := kind_int (lk (by decide)).2
    obtain ⟨a, ha⟩ := kind_int (lk (by decide)).1
    have hu : M.2.1 613 (6 * gi + (s0.length - 1)) = v.toInt64 := by rw [xu (by omega), hv]; rfl
    have hl : M.2.1 613 (6 * gi + (s0.length - 1 - 1)) = a.toInt64 := by rw [xl d2, show s0.getD (s0.length - 1 - 1) (.inl 0) = .inl a from ha]; rfl
    refine fm_post (rq_3 hn hR hg hd h6 d2 hu hl) (fun r n' M' hp => ⟨hp.1, hp.2.1, ?_⟩)
    rw [hp.2.2]
    show rQ_f gi M (N, s0, p) (0, 0, N, s0.take (s0.length - 2) ++ [.inl (ag_int (ag_low 3 (N, s0, p)) - ag_int (ag_upp (N, s0, p)))], p) _
    rw [hv, ha]
    exact ⟨⟨g, hrG_push e2 rfl (T2 d2)⟩, fun _ => (frW_p1 (Or.inl ⟨by decide, by decide, rfl⟩) (frW_p2 (Or.inl ⟨rfl, by omega, by omega⟩) (frW_p1 (Or.inl ⟨by decide, by decide, rfl⟩) (frW_p1 (Or.inl ⟨by decide, by decide, rfl⟩) (frW_rf gi M))))), fun e => no3 e rfl⟩
  · have d2 : 2 ≤ s0.length := l1
    obtain ⟨v, hv⟩ := kind_int (lk (by decide)).2
    obtain ⟨a, ha⟩ := kind_int (lk (by decide)).1
    have hu : M.2.1 613 (6 * gi + (s0.length - 1)) = v.toInt64 := by rw [xu (by omega), hv]; rfl
    have hl : M.2.1 613 (6 * gi + (s0.length - 1 - 1)) = a.toInt64 := by rw [xl d2, show s0.getD (s0.length - 1 - 1) (.inl 0) = .inl a from ha]; rfl
    refine fm_post (rq_4 hn hR hg hd h6 d2 hu hl) (fun r n' M' hp => ⟨hp.1, hp.2.1, ?_⟩)
    rw [hp.2.2]
    show rQ_f gi M (N, s0, p) (0, 0, N, s0.take (s0.length - 2) ++ [.inl (ag_int (ag_low 4 (N, s0, p)) * ag_int (ag_upp (N, s0, p)))], p) _
    rw [hv, ha]
    exact ⟨⟨g, hrG_push e2 rfl (T2 d2)⟩, fun _ => (frW_p1 (Or.inl ⟨by decide, by decide, rfl⟩) (frW_p2 (Or.inl ⟨rfl, by omega, by omega⟩) (frW_p1 (Or.inl ⟨by decide, by decide, rfl⟩) (frW_p1 (Or.inl ⟨by decide, by decide, rfl⟩) (frW_rf gi M))))), fun e => no3 e rfl⟩
  · have d5 : s0.length < 6 := Nat.lt_of_succ_le (show s0.length - 0 + 1 ≤ 6 from l2)
    have hyl : y < s0.length := by simpa [ag_bnd] using hb
    refine fm_post (rq_5 hn hR hg hd h6 d5 hyl) (fun r n' M' hp => ⟨hp.1, hp.2.1, ?_⟩)
    rw [hp.2.2]
    show rQ_f gi M (N, s0, p) (0, 0, N, s0.take (s0.length - 0) ++ [(s0.take (s0.length - 0)).getD ((s0.take (s0.length - 0)).length - 1 - y) (.inl 0)], p) _
    rw [e0]
    exact ⟨⟨g, hrG_push rfl (hrG_at h hyl).symm h⟩, fun _ => (frW_p1 (Or.inl ⟨by decide, by decide, rfl⟩) (frW_p2 (Or.inl ⟨rfl, by omega, by omega⟩) (frW_rf gi M))), fun e => no3 e rfl⟩
  · have d1 : 1 ≤ s0.length := l1
    refine fm_post (rq_6 hn hR hg hd h6 d1) (fun r n' M' hp => ⟨hp.1, hp.2.1, ?_⟩)
    rw [hp.2.2]
    show rQ_f gi M (N, s0, p) (0, 0, N, s0.take (s0.length - 1), p) _
    exact ⟨⟨g, T1 d1⟩, fun _ => (frW_p1 (Or.inl ⟨by decide, by decide, rfl⟩) (frW_rf gi M)), fun e => no3 e rfl⟩
  · have d5 : s0.length < 6 := Nat.lt_of_succ_le (show s0.length - 0 + 1 ≤ 6 from l2)
    have hy8 : y < 8 := by simpa [ag_bnd] using hb
    refine fm_post (rq_7f hn hR hg hd h6 d5 hfh hh hy8) (fun r n' M' hp => ⟨hp.1, hp.2.1, ?_⟩)
    rw [hp.2.2]
    show rQ_f gi M (N, s0, p) (0, 0, N, s0.take (s0.length - 0) ++ [.inl (tbl y)], p) _
    rw [e0, htb y hy8]
    exact ⟨⟨g, hrG_push rfl rfl h⟩, fun _ => (frW_p1 (Or.inl ⟨by decide, by decide, rfl⟩) (frW_p2 (Or.inl ⟨rfl, by omega, by omega⟩) (frW_rf gi M))), fun e => no3 e rfl⟩
  · have d1 : 1 ≤ s0.length := l1
    obtain ⟨v, hv⟩ := kind_int (lk (by decide)).2
    have hu : M.2.1 613 (6 * gi + (s0.length - 1)) = v.toInt64 := by rw [xu d1, hv]; rfl
    have h16 : N 5 < 16 := by simpa [ag_bnd] using hb
    refine fm_post (rq_8f hn hR hg hd h6 d1 hu (h.1 5 (by decide) (by decide) ⟨by decide, by decide⟩) hfc h16) (fun r n' M' hp => ⟨hp.1, hp.2.1, ?_⟩)
    rw [hp.2.2]
    show rQ_f gi M (N, s0, p) (1, ag_int (ag_upp (N, s0, p)), va_up N 5 (N 5 + 1), s0.take (s0.length - 1), p) _
    rw [hv]
    exact ⟨⟨g, hrG_num (k := 5) (by decide) (by decide) (hrG_o1 (Or.inl (by decide)) (hrG_o1 (Or.inl (by decide)) (T1 d1)))⟩, fun _ => (frW_p1 (Or.inl ⟨by decide, by decide, rfl⟩) (frW_put (frW_put (frW_p1 (Or.inl ⟨by decide, by decide, rfl⟩) (frW_rf gi M))))), fun e => no3 e rfl⟩
  · have d1 : 1 ≤ s0.length := l1
    obtain ⟨v, hv⟩ := kind_int (lk (by decide)).2
    have hu : M.2.1 613 (6 * gi + (s0.length - 1)) = v.toInt64 := by rw [xu d1, hv]; rfl
    by_cases g1 : v = nI he
    · have z : True := trivial
      refine fm_post (rq_9f hn hR hg hd h6 d1 hu) (fun r n' M' hp => ⟨hp.1, hp.2.1, ?_⟩)
      rw [hp.2.2]
      show rQ_f gi M (N, s0, p) (if ag_int (ag_upp (N, s0, p)) = nI he then (0, 0, N, s0.take (s0.length - 1), p) else (2, ag_int (ag_upp (N, s0, p)), va_up N 4 (N 4 + 1), s0.take (s0.length - 1), p)) _
      rw [hv, if_pos (show ag_int (.inl v) = nI he from g1), p1_id ((p1_other (by decide)).trans (hfh.trans g1.symm))]
      exact ⟨⟨g, T1 d1⟩, fun _ => (frW_p1 (Or.inl ⟨by decide, by decide, rfl⟩) (frW_rf gi M)), fun e => no3 e rfl⟩
    · have z : True := trivial
      refine fm_post (rq_9f hn hR hg hd h6 d1 hu) (fun r n' M' hp => ⟨hp.1, hp.2.1, ?_⟩)
      rw [hp.2.2]
      show rQ_f gi M (N, s0, p) (if ag_int (ag_upp (N, s0, p)) = nI he then (0, 0, N, s0.take (s0.length - 1), p) else (2, ag_int (ag_upp (N, s0, p)), va_up N 4 (N 4 + 1), s0.take (s0.length - 1), p)) _
      rw [hv, if_neg (show ¬ ag_int (.inl v) = nI he from g1)]
      exact ⟨⟨g, hrG_mask (k := 4) (fun q => q.1 rfl) (hrG_o1 (Or.inl (by decide)) (T1 d1))⟩, fun _ => frW_put (frW_p1 (Or.inl ⟨by decide, by decide, rfl⟩) (frW_rf gi M)), fun e => no3 e rfl⟩
  · have z : True := trivial
    refine fm_post (rq_10 hn hR hg hd h6) (fun r n' M' hp => ⟨hp.1, hp.2.1, ?_⟩)
    rw [hp.2.2]
    show rQ_f gi M (N, s0, p) (0, 0, va_up N 2 y, s0.take (s0.length - 0), p) _
    rw [e0]
    exact ⟨⟨g, hrG_num (k := 2) (by decide) (by decide) h⟩, fun _ => (frW_p1 (Or.inl ⟨by decide, by decide, rfl⟩) (frW_rf gi M)), fun e => no3 e rfl⟩
  · have d1 : 1 ≤ s0.length := l1
    obtain ⟨v, hv⟩ := kind_int (lk (by decide)).2
    have hu : M.2.1 613 (6 * gi + (s0.length - 1)) = v.toInt64 := by rw [xu d1, hv]; rfl
    by_cases g1 : v = 0
    · have z : True := trivial
      refine fm_post (rq_11z hn hR hg hd h6 d1 hu g1) (fun r n' M' hp => ⟨hp.1, hp.2.1, ?_⟩)
      rw [hp.2.2]
      show rQ_f gi M (N, s0, p) (0, 0, if ag_int (ag_upp (N, s0, p)) = 0 then N else va_up N 2 y, s0.take (s0.length - 1), p) _
      rw [hv, if_pos (show ag_int (.inl v) = 0 from g1)]
      exact ⟨⟨g, T1 d1⟩, fun _ => (frW_p1 (Or.inl ⟨by decide, by decide, rfl⟩) (frW_rf gi M)), fun e => no3 e rfl⟩
    · have z : True := trivial
      refine fm_post (rq_11 hn hR hg hd h6 d1 hu g1) (fun r n' M' hp => ⟨hp.1, hp.2.1, ?_⟩)
      rw [hp.2.2]
      show rQ_f gi M (N, s0, p) (0, 0, if ag_int (ag_upp (N, s0, p)) = 0 then N else va_up N 2 y, s0.take (s0.length - 1), p) _
      rw [hv, if_neg (show ¬ ag_int (.inl v) = 0 from g1)]
      exact ⟨⟨g, hrG_num (k := 2) (by decide) (by decide) (T1 d1)⟩, fun _ => (frW_p1 (Or.inl ⟨by decide, by decide, rfl⟩) (frW_p1 (Or.inl ⟨by decide, by decide, rfl⟩) (frW_rf gi M))), fun e => no3 e rfl⟩
  · have d1 : 1 ≤ s0.length := l1
    obtain ⟨v, hv⟩ := kind_int (lk (by decide)).2
    have hu : M.2.1 613 (6 * gi + (s0.length - 1)) = v.toInt64 := by rw [xu d1, hv]; rfl
    have REF : ∀ (kk : 4 ≤ N 0 ∨ N 7 ≠ 0 ∨ v < 1 ∨ nI (N 3) < v) (hcl : Met l y_Mo_cloning (Cond.code y_Mo_cloning b_Mo_cloning 6 none :: fm_T0) ({ frames := 2, cells := 0, slots := 0, locals := 60 }) (fm_Pc fm_lay fm_nf fm_fk fm_cl b x D dA (fm_tys dA) (fm_EX b x) false [.ref 586, .int (nI gi), .int (-1), .int v] n (fm_put1 M 612 gi (nI (s0.length - 1)))) (fm_Qc fm_lay fm_nf fm_fk fm_cl b x D dA (fun r n' M' => r = none ∧ n' = n ∧ M' = fm_put1 (fm_put2 (fm_put1 M 612 gi (nI (s0.length - 1))) 613 (6 * gi + (s0.length - 1)) (-1)) 612 gi (nI (s0.length - 1 + 1)))) 0 0 (fm_A b)), Met l y_Mo_perform (Cond.code y_Mo_perform b_Mo_perform 5 none :: fm_T0) ({ frames := 6, cells := 0, slots := 0, locals := 170 }) (fm_Pc fm_lay fm_nf fm_fk fm_cl b x D dA (fm_tys dA) (fm_EX b x) false [.ref 586, .int (nI gi), .int (-1), .int (nI 12), .int (nI y)] n M) (fm_Qc fm_lay fm_nf fm_fk fm_cl b x D dA (fun r n' M' => r = none ∧ n' = n ∧ rQ_f gi M (N, s0, p) (ag_do 12 y tbl he N (s0.take (s0.length - ag_tk 12)) p (ag_low 12 (N, s0, p)) (ag_upp (N, s0, p))) M')) 0 0 (fm_A b) := by
      intro kk hcl
      refine fm_post (rq_12 (PR := fun M' => M' = fm_put1 (fm_put2 (fm_put1 M 612 gi (nI (s0.length - 1))) 613 (6 * gi + (s0.length - 1)) (-1)) 612 gi (nI (s0.length - 1 + 1))) hn hR hg hd h6 d1 hu hcl) (fun r n' M' hp => ⟨hp.1, hp.2.1, ?_⟩)
      rw [hp.2.2]
      show rQ_f gi M (N, s0, p) (if 4 ≤ N 0 ∨ N 7 ≠ 0 ∨ ag_int (ag_upp (N, s0, p)) < 1 ∨ nI (N 3) < ag_int (ag_upp (N, s0, p)) then (0, 0, N, s0.take (s0.length - 1) ++ [.inl (-1)], p) else (3, ag_int (ag_upp (N, s0, p)), va_up (va_up N 3 (N 3 - (ag_int (ag_upp (N, s0, p))).toInt.toNat)) 7 1, s0.take (s0.length - 1) ++ [.inl 0], p)) _
      rw [hv, if_pos (show 4 ≤ N 0 ∨ N 7 ≠ 0 ∨ ag_int (.inl v) < 1 ∨ nI (N 3) < ag_int (.inl v) from kk)]
      exact ⟨⟨g, hrG_push e1 rfl (T1 d1)⟩, fun _ => (frW_p1 (Or.inl ⟨by decide, by decide, rfl⟩) (frW_p2 (Or.inl ⟨rfl, by omega, by omega⟩) (frW_p1 (Or.inl ⟨by decide, by decide, rfl⟩) (frW_rf gi M)))), fun e => no3 e rfl⟩
    by_cases g1 : 4 ≤ N 0
    · exact REF (Or.inl g1) (rc_cl_f1 (M := fm_put1 M 612 gi (nI (s0.length - 1))) (d := s0.length - 1) hn hR hg (p1_same _ _ _ _) (show s0.length - 1 < 6 by omega) (by have := hN0.mp g1; omega))
    · have gp : gi = 96 := by have := mt hN0.mpr g1; omega
      by_cases g2 : N 7 = 0
      · by_cases g3 : v < 1
        · exact REF (Or.inr (Or.inr (Or.inl g3))) (rc_cl_f3 (M := fm_put1 M 612 gi (nI (s0.length - 1))) (d := s0.length - 1) hn hR hg (p1_same _ _ _ _) (show s0.length - 1 < 6 by omega) gp ((T1 d1).1 7 (by decide) (by decide) ⟨by decide, by decide⟩) h7 g2 g3)
        · by_cases g4 : nI (N 3) < v
          · exact REF (Or.inr (Or.inr (Or.inr g4))) (rc_cl_f4 (M := fm_put1 M 612 gi (nI (s0.length - 1))) (d := s0.length - 1) hn hR hg (p1_same _ _ _ _) (show s0.length - 1 < 6 by omega) gp ((T1 d1).1 7 (by decide) (by decide) ⟨by decide, by decide⟩) h7 g2 g3 ((T1 d1).1 3 (by decide) (by decide) ⟨by decide, by decide⟩) g4)
          · obtain ⟨k1, k2, k3⟩ := toN_of (v := v) (a := 1) (c := N 3) (lo := 1) (hi := nI (N 3)) rfl (nI_int (by omega)) ⟨g3, g4⟩
            generalize hw : v.toInt.toNat = w at k1 k2 k3
            have hcl := rc_clone_f (l := l) (b := b) (x := x) (D := D) (dA := dA) (w := w) hn (M := fm_put1 M 612 gi (nI (s0.length - 1))) hR gp (T1 d1) (ok_take (N := N) (s0.length - 1) ok) (by rw [e1]; omega) ⟨by decide, by decide⟩ ⟨by decide, by decide⟩ g2 k2 k3 h3
            rw [← k1] at hcl
            refine fm_post (rq_12 hn hR hg hd h6 d1 hu hcl) (fun r n' M' hp => ⟨hp.1, hp.2.1, ?_⟩)
            obtain ⟨M1, m1, m2, m3, m4, m5⟩ := hp.2.2
            show rQ_f gi M (N, s0, p) (if 4 ≤ N 0 ∨ N 7 ≠ 0 ∨ ag_int (ag_upp (N, s0, p)) < 1 ∨ nI (N 3) < ag_int (ag_upp (N, s0, p)) then (0, 0, N, s0.take (s0.length - 1) ++ [.inl (-1)], p) else (3, ag_int (ag_upp (N, s0, p)), va_up (va_up N 3 (N 3 - (ag_int (ag_upp (N, s0, p))).toInt.toNat)) 7 1, s0.take (s0.length - 1) ++ [.inl 0], p)) _
            rw [hv, if_neg (show ¬ (4 ≤ N 0 ∨ N 7 ≠ 0 ∨ ag_int (.inl v) < 1 ∨ nI (N 3) < ag_int (.inl v)) from fun q => q.elim g1 (fun q => q.elim (fun q => q g2) (fun q => q.elim g3 g4)))]
            have hwv : (ag_int (.inl v)).toInt.toNat = w := hw
            refine ⟨⟨g, by rw [hwv]; exact m3⟩, fun e => absurd rfl e, fun _ => ?_⟩
            refine ⟨fm_put1 M1 612 gi (M.1 612 gi), ?_, ?_, ⟨g, ?_⟩, m5⟩
            · refine ⟨m1.1, fun o j a => ?_, m1.2.2⟩
              by_cases e : o = 612 ∧ j = gi
              · rw [e.1, e.2, p1_same]
              · have key : (fm_put1 M1 612 gi (M.1 612 gi)).1 o j = M1.1 o j := by
                  by_cases e3 : o = 612
                  · subst e3
                    exact p1_at (fun q => e ⟨rfl, q⟩)
                  · exact p1_other e3
                rw [key, m1.2.1 o j a]
                by_cases e3 : o = 612
                · subst e3
                  exact p1_at (fun q => e ⟨rfl, q⟩)
                · exact p1_other e3
            · refine frW_tr ?_ m2
              exact frW_put ⟨rfl, fun o j a _ _ _ => (by
                by_cases e3 : o = 612
                · subst e3
                  exact (p1_at (fun q => a ⟨by decide, by decide, q⟩)).symm
                · exact (p1_other e3).symm), fun _ _ _ _ _ _ => rfl⟩
            · show hr_G M' 97 F_f (ag_kid (N, s0.take (s0.length - 1), p) (ag_int (.inl v)).toInt.toNat) g
              rw [hwv]
              exact m4
      · exact REF (Or.inr (Or.inl g2)) (rc_cl_f2 (M := fm_put1 M 612 gi (nI (s0.length - 1))) (d := s0.length - 1) hn hR hg (p1_same _ _ _ _) (show s0.length - 1 < 6 by omega) gp ((T1 d1).1 7 (by decide) (by decide) ⟨by decide, by decide⟩) h7 g2)
  · have d1 : 1 ≤ s0.length := l1
    obtain ⟨v, hv⟩ := kind_int (lk (by decide)).2
    have hu : M.2.1 613 (6 * gi + (s0.length - 1)) = v.toInt64 := by rw [xu d1, hv]; rfl
    refine fm_post (rq_13f hn hR hg hd h6 d1 hu) (fun r n' M' hp => ⟨hp.1, hp.2.1, ?_⟩)
    rw [hp.2.2]
    show rQ_f gi M (N, s0, p) (0, 0, va_up N 6 (ag_int (ag_upp (N, s0, p))).toInt.toNat, s0.take (s0.length - 1), p) _
    rw [hv]
    exact ⟨⟨g, hrG_mask (k := 6) (fun q => q.2 rfl) (hrG_skip (k := 6) (fun q => q.2 rfl) (by decide) (hrG_skip (k := 6) (fun q => q.2 rfl) (by decide) (T1 d1)))⟩, fun _ => (frW_p1 (Or.inl ⟨by decide, by decide, rfl⟩) (frW_p1 (Or.inl ⟨by decide, by decide, rfl⟩) (frW_p1 (Or.inl ⟨by decide, by decide, rfl⟩) (frW_rf gi M)))), fun e => no3 e rfl⟩
  · have h8 : p.length < 8 := by simpa [ag_bnd] using hb
    refine fm_post (rq_14 hn hR hg hd h6 (rc_newPair hn hR hg h ok hca l1 h8)) (fun r n' M' hp => ⟨hp.1, hp.2.1, ?_⟩)
    exact ⟨⟨id, hp.2.2.1⟩, fun _ => hp.2.2.2, fun e => no3 e rfl⟩
  · have d1 : 1 ≤ s0.length := l1
    obtain ⟨k, hk⟩ := kind_pair (lk (by decide)).2
    have hkl : k < p.length := by
      have := (hin (by decide)).2
      rw [hk] at this
      exact this
    have hu : M.2.1 613 (6 * gi + (s0.length - 1)) = 1099511627776 + (nI (g k)).toInt64 := by rw [xu d1, hk]; rfl
    refine fm_post (rq_15 hn hR hg hd h6 d1 hu (h.2.2.1 k hkl)) (fun r n' M' hp => ⟨hp.1, hp.2.1, ?_⟩)
    rw [hp.2.2]
    show rQ_f gi M (N, s0, p) (0, 0, N, s0.take (s0.length - 1) ++ [(ag_fn p (ag_prn (ag_low 15 (N, s0, p)))).1], p) _
    rw [show ag_low 15 (N, s0, p) = .inr k from hk]
    exact ⟨⟨g, hrG_push e1 (h.2.2.2.2.2 k _ (fn_get hkl)).1.symm (T1 d1)⟩, fun _ => (frW_p1 (Or.inl ⟨by decide, by decide, rfl⟩) (frW_p2 (Or.inl ⟨rfl, by omega, by omega⟩) (frW_p1 (Or.inl ⟨by decide, by decide, rfl⟩) (frW_rf gi M)))), fun e => no3 e rfl⟩
  · have d1 : 1 ≤ s0.length := l1
    obtain ⟨k, hk⟩ := kind_pair (lk (by decide)).2
    have hkl : k < p.length := by
      have := (hin (by decide)).2
      rw [hk] at this
      exact this
    have hu : M.2.1 613 (6 * gi + (s0.length - 1)) = 1099511627776 + (nI (g k)).toInt64 := by rw [xu d1, hk]; rfl
    refine fm_post (rq_16 hn hR hg hd h6 d1 hu (h.2.2.1 k hkl)) (fun r n' M' hp => ⟨hp.1, hp.2.1, ?_⟩)
    rw [hp.2.2]
    show rQ_f gi M (N, s0, p) (0, 0, N, s0.take (s0.length - 1) ++ [(ag_fn p (ag_prn (ag_low 16 (N, s0, p)))).2], p) _
    rw [show ag_low 16 (N, s0, p) = .inr k from hk]
    exact ⟨⟨g, hrG_push e1 (h.2.2.2.2.2 k _ (fn_get hkl)).2.symm (T1 d1)⟩, fun _ => (frW_p1 (Or.inl ⟨by decide, by decide, rfl⟩) (frW_p2 (Or.inl ⟨rfl, by omega, by omega⟩) (frW_p1 (Or.inl ⟨by decide, by decide, rfl⟩) (frW_rf gi M)))), fun e => no3 e rfl⟩
  · have d2 : 2 ≤ s0.length := l1
    obtain ⟨k, hk⟩ := kind_pair (lk (by decide)).1
    have hkl : k < p.length := by
      have := (hin (by decide)).1
      rw [hk] at this
      exact this
    have hgk := h.2.2.1 k hkl
    have hgk : g k < 9 := hgk
    have hl : M.2.1 613 (6 * gi + (s0.length - 1 - 1)) = 1099511627776 + (nI (g k)).toInt64 := by rw [xl d2, show s0.getD (s0.length - 1 - 1) (.inl 0) = .inr k from hk]; rfl
    refine fm_post (rq_17 hn hR hg hd h6 d2 hl hgk) (fun r n' M' hp => ⟨hp.1, hp.2.1, ?_⟩)
    rw [hp.2.2]
    show rQ_f gi M (N, s0, p) (0, 0, N, s0.take (s0.length - 2), p.set (ag_prn (ag_low 17 (N, s0, p))) (ag_upp (N, s0, p), (ag_fn p (ag_prn (ag_low 17 (N, s0, p)))).2)) _
    rw [show ag_low 17 (N, s0, p) = .inr k from hk]
    exact ⟨⟨g, hrG_set1 hkl (xu (by omega)).symm (T2 d2)⟩, fun _ => frW_p2 (Or.inr (Or.inl ⟨by decide, by omega, by omega⟩)) (frW_p1 (Or.inl ⟨by decide, by decide, rfl⟩) (frW_p1 (Or.inl ⟨by decide, by decide, rfl⟩) (frW_rf gi M))), fun e => no3 e rfl⟩
  · have d2 : 2 ≤ s0.length := l1
    obtain ⟨k, hk⟩ := kind_pair (lk (by decide)).1
    have hkl : k < p.length := by
      have := (hin (by decide)).1
      rw [hk] at this
      exact this
    have hgk := h.2.2.1 k hkl
    have hgk : g k < 9 := hgk
    have hl : M.2.1 613 (6 * gi + (s0.length - 1 - 1)) = 1099511627776 + (nI (g k)).toInt64 := by rw [xl d2, show s0.getD (s0.length - 1 - 1) (.inl 0) = .inr k from hk]; rfl
    refine fm_post (rq_18 hn hR hg hd h6 d2 hl hgk) (fun r n' M' hp => ⟨hp.1, hp.2.1, ?_⟩)
    rw [hp.2.2]
    show rQ_f gi M (N, s0, p) (0, 0, N, s0.take (s0.length - 2), p.set (ag_prn (ag_low 18 (N, s0, p))) ((ag_fn p (ag_prn (ag_low 18 (N, s0, p)))).1, ag_upp (N, s0, p))) _
    rw [show ag_low 18 (N, s0, p) = .inr k from hk]
    exact ⟨⟨g, hrG_set2 hkl (xu (by omega)).symm (T2 d2)⟩, fun _ => frW_p2 (Or.inr (Or.inl ⟨by decide, by omega, by omega⟩)) (frW_p1 (Or.inl ⟨by decide, by decide, rfl⟩) (frW_p1 (Or.inl ⟨by decide, by decide, rfl⟩) (frW_rf gi M))), fun e => no3 e rfl⟩
  · have d2 : 2 ≤ s0.length := l1
    have hiL := (hin (by decide)).1
    have hiU := (hin (by decide)).2
    by_cases g1 : ag_low 19 (N, s0, p) = ag_upp (N, s0, p)
    · have hx : M.2.1 613 (6 * gi + (s0.length - 1 - 1)) = M.2.1 613 (6 * gi + (s0.length - 1)) := by
        rw [xl d2, xu (by omega), ← g1]
        rfl
      refine fm_post (rq_19e hn hR hg hd h6 d2 hx) (fun r n' M' hp => ⟨hp.1, hp.2.1, ?_⟩)
      rw [hp.2.2]
      show rQ_f gi M (N, s0, p) (0, 0, N, s0.take (s0.length - 2) ++ [.inl (if ag_low 19 (N, s0, p) = ag_upp (N, s0, p) then 1 else 0)], p) _
      rw [if_pos g1]
      exact ⟨⟨g, hrG_push e2 rfl (T2 d2)⟩, fun _ => (frW_p1 (Or.inl ⟨by decide, by decide, rfl⟩) (frW_p2 (Or.inl ⟨rfl, by omega, by omega⟩) (frW_p1 (Or.inl ⟨by decide, by decide, rfl⟩) (frW_p1 (Or.inl ⟨by decide, by decide, rfl⟩) (frW_rf gi M))))), fun e => no3 e rfl⟩
    · have hx : ¬ M.2.1 613 (6 * gi + (s0.length - 1 - 1)) = M.2.1 613 (6 * gi + (s0.length - 1)) := by
        intro q
        rw [xl d2, xu (by omega)] at q
        exact g1 (map_inj h.2.2.2.1 hiL hiU (e64_inj (map_ok h hiL) (map_ok h hiU) q))
      refine fm_post (rq_19n hn hR hg hd h6 d2 hx) (fun r n' M' hp => ⟨hp.1, hp.2.1, ?_⟩)
      rw [hp.2.2]
      show rQ_f gi M (N, s0, p) (0, 0, N, s0.take (s0.length - 2) ++ [.inl (if ag_low 19 (N, s0, p) = ag_upp (N, s0, p) then 1 else 0)], p) _
      rw [if_neg g1]
      exact ⟨⟨g, hrG_push e2 rfl (T2 d2)⟩, fun _ => (frW_p1 (Or.inl ⟨by decide, by decide, rfl⟩) (frW_p2 (Or.inl ⟨rfl, by omega, by omega⟩) (frW_p1 (Or.inl ⟨by decide, by decide, rfl⟩) (frW_p1 (Or.inl ⟨by decide, by decide, rfl⟩) (frW_rf gi M))))), fun e => no3 e rfl⟩
