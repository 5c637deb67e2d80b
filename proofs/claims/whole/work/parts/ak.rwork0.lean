/-! THE REFERENCE: an instruction of the free run, whatever the count of what is said -/
def rQ_g (fc gi : Nat) (M : fm_M) (A : ag_T) (dd : Nat × Int32 × ag_T) (M' : fm_M) : Prop := (∃ g', hr_G M' gi F_f dd.2.2 g') ∧ (dd.1 ≠ 3 → fr_W gi (rE_f dd.1 dd.2.1 fc M) M') ∧ (dd.1 = 3 → ∃ M1, mv_R 97 M M1 ∧ fr_W gi (fm_put1 M1 586 47 (nI 1)) M' ∧ (∃ g', hr_G M' 97 F_f (ag_kid (A.1, A.2.1.take (A.2.1.length - 1), A.2.2) dd.2.1.toInt.toNat) g') ∧ M'.1 611 97 = nI 0)
def rW_g (fc gi : Nat) (M : fm_M) (A : ag_T) (st : Nat × Int32 × ag_T) (M' : fm_M) : Prop := (∃ g', hr_G M' gi F_f st.2.2 g') ∧ (st.1 ≠ 3 → fr_W gi (rE_f st.1 st.2.1 fc (fm_put1 M 586 50 (nI 0))) M') ∧ (st.1 = 3 → fr_W2 gi 97 (fm_put1 (fm_put1 M 586 50 (nI 0)) 586 47 (nI 1)) M' ∧ (∃ g', hr_G M' 97 F_f (ag_kidOf A st.2.1.toInt.toNat) g') ∧ M'.1 611 97 = nI 0)
theorem rc_do_g {l : Launch} {b : Nat} {x : Nat → Nat} {D : va_G} {dA : Nat → ClassId} {fc gi he c y n : Nat} {N : Nat → Nat} {s0 : List bf_V} {p : List (bf_V × bf_V)} {g : Nat → Nat} {tbl : Nat → Int32} {M : fm_M} (hn : 629 ≤ n) (hR : fm_RP M) (hfh : M.1 586 46 = nI he) (hh : he < 4) (hg9 : gi = 96 ∨ gi = 97) (hN0 : 4 ≤ N 0 ↔ gi = 97) (hfc : M.1 586 48 = nI fc) (hf16 : fc < 16) (h : hr_G M gi F_f (N, s0, p) g) (ok : ag_ok (N, s0, p)) (hca : ag_can (N, s0, p) = (N, s0, p)) (htb : ∀ k, k < 8 → M.1 589 (8 * he + k) = tbl k) (h3 : N 3 < 1000) (h5 : N 5 < 1000) (h7 : N 7 ≤ 1) (hc20 : c < 20) (hy2 : y < 256) (ht : ag_takes c (N, s0, p) = true) (hb : ag_bnd c y (N, s0, p) = true) : Met l y_Mo_perform (Cond.code y_Mo_perform b_Mo_perform 5 none :: fm_T0) ({ frames := 6, cells := 0, slots := 0, locals := 170 }) (fm_Pc fm_lay fm_nf fm_fk fm_cl b x D dA (fm_tys dA) (fm_EX b x) false [.ref 586, .int (nI gi), .int (-1), .int (nI c), .int (nI y)] n M) (fm_Qc fm_lay fm_nf fm_fk fm_cl b x D dA (fun r n' M' => r = none ∧ n' = n ∧ rQ_g fc gi M (N, s0, p) (ag_do c y tbl he N (s0.take (s0.length - ag_tk c)) p (ag_low c (N, s0, p)) (ag_upp (N, s0, p))) M')) 0 0 (fm_A b) := by
  have hg : gi < 98 := by omega
  obtain ⟨l1, l2, lk⟩ := take_len ht
  have l1 : ag_tk c ≤ s0.length := l1
  have l2 : s0.length - ag_tk c + ag_gv c ≤ 6 := l2
  have hd : M.1 612 gi = nI s0.length := h.2.1
  have h6 : s0.length ≤ 6 := ok.1
  have hin := fun q => lu_in ok ht (c := c) q
  have xu : 1 ≤ s0.length → M.2.1 613 (6 * gi + (s0.length - 1)) = e64 (bf_map g (ag_upp (N, s0, p))) := fun q => h.2.2.2.2.1 _ _ (getD_mem (s := s0) (k := s0.length - 1) (by omega)).1
  have xl : 2 ≤ s0.length → M.2.1 613 (6 * gi + (s0.length - 1 - 1)) = e64 (bf_map g (s0.getD (s0.length - 1 - 1) (.inl 0))) := fun q => h.2.2.2.2.1 _ _ (getD_mem (s := s0) (k := s0.length - 1 - 1) (by omega)).1
  have T1 : 1 ≤ s0.length → hr_G (fm_put1 M 612 gi (nI (s0.length - 1))) gi F_f (N, s0.take (s0.length - 1), p) g := fun q => hrG_take (by omega) h
  have T2 : 2 ≤ s0.length → hr_G (fm_put1 (fm_put1 M 612 gi (nI (s0.length - 1))) 612 gi (nI (s0.length - 1 - 1))) gi F_f (N, s0.take (s0.length - 2), p) g := fun q => by
    have k := hrG_take (d := s0.length - 1 - 1) (by rw [List.length_take]; omega) (T1 (by omega))
    rw [List.take_take, Nat.min_eq_left (by omega)] at k
    exact k
  have e1 : (s0.take (s0.length - 1)).length = s0.length - 1 := by rw [List.length_take]; omega
  have e2 : (s0.take (s0.length - 2)).length = s0.length - 1 - 1 := by rw [List.length_take]; omega
  have e0 : s0.take (s0.length - 0) = s0 := List.take_length
  rcases (show c = 0 ∨ c = 1 ∨ c = 2 ∨ c = 3 ∨ c = 4 ∨ c = 5 ∨ c = 6 ∨ c = 7 ∨ c = 8 ∨ c = 9 ∨ c = 10 ∨ c = 11 ∨ c = 12 ∨ c = 13 ∨ c = 14 ∨ c = 15 ∨ c = 16 ∨ c = 17 ∨ c = 18 ∨ c = 19 by omega) with rfl | rfl | rfl | rfl | rfl | rfl | rfl | rfl | rfl | rfl | rfl | rfl | rfl | rfl | rfl | rfl | rfl | rfl | rfl | rfl
  · have z : True := trivial
    refine fm_post (rq_0 hn hR hg hd h6) (fun r n' M' hp => ⟨hp.1, hp.2.1, ?_⟩)
    rw [hp.2.2]
    show rQ_g fc gi M (N, s0, p) (4, 0, N, s0.take (s0.length - 0), p) _
    rw [e0]
    exact ⟨⟨g, hrG_o1 (Or.inl (by decide)) h⟩, fun _ => frW_rf gi _, fun e => no3 e rfl⟩
  · have d5 : s0.length < 6 := Nat.lt_of_succ_le (show s0.length - 0 + 1 ≤ 6 from l2)
    by_cases g1 : y ≤ 127
    · have z : True := trivial
      refine fm_post (rq_1a hn hR hg hd h6 d5 g1) (fun r n' M' hp => ⟨hp.1, hp.2.1, ?_⟩)
      rw [hp.2.2]
      show rQ_g fc gi M (N, s0, p) (0, 0, N, s0.take (s0.length - 0) ++ [.inl (nI y).toInt8.toInt32], p) _
      rw [e0]
      exact ⟨⟨g, hrG_push rfl rfl h⟩, fun _ => (frW_p1 (Or.inl ⟨by decide, by decide, rfl⟩) (frW_p2 (Or.inl ⟨rfl, by omega, by omega⟩) (frW_rf gi M))), fun e => no3 e rfl⟩
    · have z : True := trivial
      refine fm_post (rq_1b hn hR hg hd h6 d5 hy2 g1) (fun r n' M' hp => ⟨hp.1, hp.2.1, ?_⟩)
      rw [hp.2.2]
      show rQ_g fc gi M (N, s0, p) (0, 0, N, s0.take (s0.length - 0) ++ [.inl (nI y).toInt8.toInt32], p) _
      rw [e0]
      exact ⟨⟨g, hrG_push rfl rfl h⟩, fun _ => (frW_p1 (Or.inl ⟨by decide, by decide, rfl⟩) (frW_p2 (Or.inl ⟨rfl, by omega, by omega⟩) (frW_rf gi M))), fun e => no3 e rfl⟩
  · have d2 : 2 ≤ s0.length := l1
    obtain ⟨v, hv⟩ := kind_int (lk (by decide)).2
    obtain ⟨a, ha⟩ := kind_int (lk (by decide)).1
    have hu : M.2.1 613 (6 * gi + (s0.length - 1)) = v.toInt64 := by rw [xu (by omega), hv]; rfl
    have hl : M.2.1 613 (6 * gi + (s0.length - 1 - 1)) = a.toInt64 := by rw [xl d2, show s0.getD (s0.length - 1 - 1) (.inl 0) = .inl a from ha]; rfl
    refine fm_post (rq_2 hn hR hg hd h6 d2 hu hl) (fun r n' M' hp => ⟨hp.1, hp.2.1, ?_⟩)
    rw [hp.2.2]
    show rQ_g fc gi M (N, s0, p) (0, 0, N, s0.take (s0.length - 2) ++ [.inl (ag_int (ag_low 2 (N, s0, p)) + ag_int (ag_upp (N, s0, p)))], p) _
    rw [hv, ha]
    exact ⟨⟨g, hrG_push e2 rfl (T2 d2)⟩, fun _ => (frW_p1 (Or.inl ⟨by decide, by decide, rfl⟩) (frW_p2 (Or.inl ⟨rfl, by omega, by omega⟩) (frW_p1 (Or.inl ⟨by decide, by decide, rfl⟩) (frW_p1 (Or.inl ⟨by decide, by decide, rfl⟩) (frW_rf gi M))))), fun e => no3 e rfl⟩
  · have d2 : 2 ≤ s0.length := l1
    obtain ⟨v, hv⟩ := kind_int (lk (by decide)).2
    obtain ⟨a, ha⟩ := kind_int (lk (by decide)).1
    have hu : M.2.1 613 (6 * gi + (s0.length - 1)) = v.toInt64 := by rw [xu (by omega), hv]; rfl
    have hl : M.2.1 613 (6 * gi + (s0.length - 1 - 1)) = a.toInt64 := by rw [xl d2, show s0.getD (s0.length - 1 - 1) (.inl 0) = .inl a from ha]; rfl
    refine fm_post (rq_3 hn hR hg hd h6 d2 hu hl) (fun r n' M' hp => ⟨hp.1, hp.2.1, ?_⟩)
    rw [hp.2.2]
    show rQ_g fc gi M (N, s0, p) (0, 0, N, s0.take (s0.length - 2) ++ [.inl (ag_int (ag_low 3 (N, s0, p)) - ag_int (ag_upp (N, s0, p)))], p) _
    rw [hv, ha]
    exact ⟨⟨g, hrG_push e2 rfl (T2 d2)⟩, fun _ => (frW_p1 (Or.inl ⟨by decide, by decide, rfl⟩) (frW_p2 (Or.inl ⟨rfl, by omega, by omega⟩) (frW_p1 (Or.inl ⟨by decide, by decide, rfl⟩) (frW_p1 (Or.inl ⟨by decide, by decide, rfl⟩) (frW_rf gi M))))), fun e => no3 e rfl⟩
  · have d2 : 2 ≤ s0.length := l1
    obtain ⟨v, hv⟩ := kind_int (lk (by decide)).2
    obtain ⟨a, ha⟩ := kind_int (lk (by decide)).1
    have hu : M.2.1 613 (6 * gi + (s0.length - 1)) = v.toInt64 := by rw [xu (by omega), hv]; rfl
    have hl : M.2.1 613 (6 * gi + (s0.length - 1 - 1)) = a.toInt64 := by rw [xl d2, show s0.getD (s0.length - 1 - 1) (.inl 0) = .inl a from ha]; rfl
    refine fm_post (rq_4 hn hR hg hd h6 d2 hu hl) (fun r n' M' hp => ⟨hp.1, hp.2.1, ?_⟩)
    rw [hp.2.2]
    show rQ_g fc gi M (N, s0, p) (0, 0, N, s0.take (s0.length - 2) ++ [.inl (ag_int (ag_low 4 (N, s0, p)) * ag_int (ag_upp (N, s0, p)))], p) _
    rw [hv, ha]
    exact ⟨⟨g, hrG_push e2 rfl (T2 d2)⟩, fun _ => (frW_p1 (Or.inl ⟨by decide, by decide, rfl⟩) (frW_p2 (Or.inl ⟨rfl, by omega, by omega⟩) (frW_p1 (Or.inl ⟨by decide, by decide, rfl⟩) (frW_p1 (Or.inl ⟨by decide, by decide, rfl⟩) (frW_rf gi M))))), fun e => no3 e rfl⟩
  · have d5 : s0.length < 6 := Nat.lt_of_succ_le (show s0.length - 0 + 1 ≤ 6 from l2)
    have hyl : y < s0.length := by simpa [ag_bnd] using hb
    refine fm_post (rq_5 hn hR hg hd h6 d5 hyl) (fun r n' M' hp => ⟨hp.1, hp.2.1, ?_⟩)
    rw [hp.2.2]
    show rQ_g fc gi M (N, s0, p) (0, 0, N, s0.take (s0.length - 0) ++ [(s0.take (s0.length - 0)).getD ((s0.take (s0.length - 0)).length - 1 - y) (.inl 0)], p) _
    rw [e0]
    exact ⟨⟨g, hrG_push rfl (hrG_at h hyl).symm h⟩, fun _ => (frW_p1 (Or.inl ⟨by decide, by decide, rfl⟩) (frW_p2 (Or.inl ⟨rfl, by omega, by omega⟩) (frW_rf gi M))), fun e => no3 e rfl⟩
  · have d1 : 1 ≤ s0.length := l1
    refine fm_post (rq_6 hn hR hg hd h6 d1) (fun r n' M' hp => ⟨hp.1, hp.2.1, ?_⟩)
    rw [hp.2.2]
    show rQ_g fc gi M (N, s0, p) (0, 0, N, s0.take (s0.length - 1), p) _
    exact ⟨⟨g, T1 d1⟩, fun _ => (frW_p1 (Or.inl ⟨by decide, by decide, rfl⟩) (frW_rf gi M)), fun e => no3 e rfl⟩
  · have d5 : s0.length < 6 := Nat.lt_of_succ_le (show s0.length - 0 + 1 ≤ 6 from l2)
    have hy8 : y < 8 := by simpa [ag_bnd] using hb
    refine fm_post (rq_7f hn hR hg hd h6 d5 hfh hh hy8) (fun r n' M' hp => ⟨hp.1, hp.2.1, ?_⟩)
    rw [hp.2.2]
    show rQ_g fc gi M (N, s0, p) (0, 0, N, s0.take (s0.length - 0) ++ [.inl (tbl y)], p) _
    rw [e0, htb y hy8]
    exact ⟨⟨g, hrG_push rfl rfl h⟩, fun _ => (frW_p1 (Or.inl ⟨by decide, by decide, rfl⟩) (frW_p2 (Or.inl ⟨rfl, by omega, by omega⟩) (frW_rf gi M))), fun e => no3 e rfl⟩
  · have d1 : 1 ≤ s0.length := l1
    obtain ⟨v, hv⟩ := kind_int (lk (by decide)).2
    have hu : M.2.1 613 (6 * gi + (s0.length - 1)) = v.toInt64 := by rw [xu d1, hv]; rfl
    have h16 : N 5 < 16 := by simpa [ag_bnd] using hb
    refine fm_post (rq_8f hn hR hg hd h6 d1 hu (h.1 5 (by decide) (by decide) ⟨by decide, by decide⟩) hfc hf16) (fun r n' M' hp => ⟨hp.1, hp.2.1, ?_⟩)
    rw [hp.2.2]
    show rQ_g fc gi M (N, s0, p) (1, ag_int (ag_upp (N, s0, p)), va_up N 5 (N 5 + 1), s0.take (s0.length - 1), p) _
    rw [hv]
    exact ⟨⟨g, hrG_num (k := 5) (by decide) (by decide) (hrG_o1 (Or.inl (by decide)) (hrG_o1 (Or.inl (by decide)) (T1 d1)))⟩, fun _ => (frW_p1 (Or.inl ⟨by decide, by decide, rfl⟩) (frW_put (frW_put (frW_p1 (Or.inl ⟨by decide, by decide, rfl⟩) (frW_rf gi M))))), fun e => no3 e rfl⟩
  · have d1 : 1 ≤ s0.length := l1
    obtain ⟨v, hv⟩ := kind_int (lk (by decide)).2
    have hu : M.2.1 613 (6 * gi + (s0.length - 1)) = v.toInt64 := by rw [xu d1, hv]; rfl
    by_cases g1 : v = nI he
    · have z : True := trivial
      refine fm_post (rq_9f hn hR hg hd h6 d1 hu) (fun r n' M' hp => ⟨hp.1, hp.2.1, ?_⟩)
      rw [hp.2.2]
      show rQ_g fc gi M (N, s0, p) (if ag_int (ag_upp (N, s0, p)) = nI he then (0, 0, N, s0.take (s0.length - 1), p) else (2, ag_int (ag_upp (N, s0, p)), va_up N 4 (N 4 + 1), s0.take (s0.length - 1), p)) _
      rw [hv, if_pos (show ag_int (.inl v) = nI he from g1), p1_id ((p1_other (by decide)).trans (hfh.trans g1.symm))]
      exact ⟨⟨g, T1 d1⟩, fun _ => (frW_p1 (Or.inl ⟨by decide, by decide, rfl⟩) (frW_rf gi M)), fun e => no3 e rfl⟩
    · have z : True := trivial
      refine fm_post (rq_9f hn hR hg hd h6 d1 hu) (fun r n' M' hp => ⟨hp.1, hp.2.1, ?_⟩)
      rw [hp.2.2]
      show rQ_g fc gi M (N, s0, p) (if ag_int (ag_upp (N, s0, p)) = nI he then (0, 0, N, s0.take (s0.length - 1), p) else (2, ag_int (ag_upp (N, s0, p)), va_up N 4 (N 4 + 1), s0.take (s0.length - 1), p)) _
      rw [hv, if_neg (show ¬ ag_int (.inl v) = nI he from g1)]
      exact ⟨⟨g, hrG_mask (k := 4) (fun q => q.1 rfl) (hrG_o1 (Or.inl (by decide)) (T1 d1))⟩, fun _ => frW_put (frW_p1 (Or.inl ⟨by decide, by decide, rfl⟩) (frW_rf gi M)), fun e => no3 e rfl⟩
  · have z : True := trivial
    refine fm_post (rq_10 hn hR hg hd h6) (fun r n' M' hp => ⟨hp.1, hp.2.1, ?_⟩)
    rw [hp.2.2]
    show rQ_g fc gi M (N, s0, p) (0, 0, va_up N 2 y, s0.take (s0.length - 0), p) _
    rw [e0]
    exact ⟨⟨g, hrG_num (k := 2) (by decide) (by decide) h⟩, fun _ => (frW_p1 (Or.inl ⟨by decide, by decide, rfl⟩) (frW_rf gi M)), fun e => no3 e rfl⟩
  · have d1 : 1 ≤ s0.length := l1
    obtain ⟨v, hv⟩ := kind_int (lk (by decide)).2
    have hu : M.2.1 613 (6 * gi + (s0.length - 1)) = v.toInt64 := by rw [xu d1, hv]; rfl
    by_cases g1 : v = 0
    · have z : True := trivial
      refine fm_post (rq_11z hn hR hg hd h6 d1 hu g1) (fun r n' M' hp => ⟨hp.1, hp.2.1, ?_⟩)
      rw [hp.2.2]
      show rQ_g fc gi M (N, s0, p) (0, 0, if ag_int (ag_upp (N, s0, p)) = 0 then N else va_up N 2 y, s0.take (s0.length - 1), p) _
      rw [hv, if_pos (show ag_int (.inl v) = 0 from g1)]
      exact ⟨⟨g, T1 d1⟩, fun _ => (frW_p1 (Or.inl ⟨by decide, by decide, rfl⟩) (frW_rf gi M)), fun e => no3 e rfl⟩
    · have z : True := trivial
      refine fm_post (rq_11 hn hR hg hd h6 d1 hu g1) (fun r n' M' hp => ⟨hp.1, hp.2.1, ?_⟩)
      rw [hp.2.2]
      show rQ_g fc gi M (N, s0, p) (0, 0, if ag_int (ag_upp (N, s0, p)) = 0 then N else va_up N 2 y, s0.take (s0.length - 1), p) _
      rw [hv, if_neg (show ¬ ag_int (.inl v) = 0 from g1)]
      exact ⟨⟨g, hrG_num (k := 2) (by decide) (by decide) (T1 d1)⟩, fun _ => (frW_p1 (Or.inl ⟨by decide, by decide, rfl⟩) (frW_p1 (Or.inl ⟨by decide, by decide, rfl⟩) (frW_rf gi M))), fun e => no3 e rfl⟩
  · have d1 : 1 ≤ s0.length := l1
    obtain ⟨v, hv⟩ := kind_int (lk (by decide)).2
    have hu : M.2.1 613 (6 * gi + (s0.length - 1)) = v.toInt64 := by rw [xu d1, hv]; rfl
    have REF : ∀ (kk : 4 ≤ N 0 ∨ N 7 ≠ 0 ∨ v < 1 ∨ nI (N 3) < v) (hcl : Met l y_Mo_cloning (Cond.code y_Mo_cloning b_Mo_cloning 6 none :: fm_T0) ({ frames := 2, cells := 0, slots := 0, locals := 60 }) (fm_Pc fm_lay fm_nf fm_fk fm_cl b x D dA (fm_tys dA) (fm_EX b x) false [.ref 586, .int (nI gi), .int (-1), .int v] n (fm_put1 M 612 gi (nI (s0.length - 1)))) (fm_Qc fm_lay fm_nf fm_fk fm_cl b x D dA (fun r n' M' => r = none ∧ n' = n ∧ M' = fm_put1 (fm_put2 (fm_put1 M 612 gi (nI (s0.length - 1))) 613 (6 * gi + (s0.length - 1)) (-1)) 612 gi (nI (s0.length - 1 + 1)))) 0 0 (fm_A b)), Met l y_Mo_perform (Cond.code y_Mo_perform b_Mo_perform 5 none :: fm_T0) ({ frames := 6, cells := 0, slots := 0, locals := 170 }) (fm_Pc fm_lay fm_nf fm_fk fm_cl b x D dA (fm_tys dA) (fm_EX b x) false [.ref 586, .int (nI gi), .int (-1), .int (nI 12), .int (nI y)] n M) (fm_Qc fm_lay fm_nf fm_fk fm_cl b x D dA (fun r n' M' => r = none ∧ n' = n ∧ rQ_g fc gi M (N, s0, p) (ag_do 12 y tbl he N (s0.take (s0.length - ag_tk 12)) p (ag_low 12 (N, s0, p)) (ag_upp (N, s0, p))) M')) 0 0 (fm_A b) := by
      intro kk hcl
      refine fm_post (rq_12 (PR := fun M' => M' = fm_put1 (fm_put2 (fm_put1 M 612 gi (nI (s0.length - 1))) 613 (6 * gi + (s0.length - 1)) (-1)) 612 gi (nI (s0.length - 1 + 1))) hn hR hg hd h6 d1 hu hcl) (fun r n' M' hp => ⟨hp.1, hp.2.1, ?_⟩)
      rw [hp.2.2]
      show rQ_g fc gi M (N, s0, p) (if 4 ≤ N 0 ∨ N 7 ≠ 0 ∨ ag_int (ag_upp (N, s0, p)) < 1 ∨ nI (N 3) < ag_int (ag_upp (N, s0, p)) then (0, 0, N, s0.take (s0.length - 1) ++ [.inl (-1)], p) else (3, ag_int (ag_upp (N, s0, p)), va_up (va_up N 3 (N 3 - (ag_int (ag_upp (N, s0, p))).toInt.toNat)) 7 1, s0.take (s0.length - 1) ++ [.inl 0], p)) _
      rw [hv, if_pos (show 4 ≤ N 0 ∨ N 7 ≠ 0 ∨ ag_int (.inl v) < 1 ∨ nI (N 3) < ag_int (.inl v) from kk)]
      exact ⟨⟨g, hrG_push e1 rfl (T1 d1)⟩, fun _ => (frW_p1 (Or.inl ⟨by decide, by decide, rfl⟩) (frW_p2 (Or.inl ⟨rfl, by omega, by omega⟩) (frW_p1 (Or.inl ⟨by decide, by decide, rfl⟩) (frW_rf gi M)))), fun e => no3 e rfl⟩
    by_cases g1 : 4 ≤ N 0
    · exact REF (Or.inl g1) (rc_cl_f1 (M := fm_put1 M 612 gi (nI (s0.length - 1))) (d := s0.length - 1) hn hR hg (p1_same _ _ _ _) (show s0.length - 1 < 6 by omega) (by have := hN0.mp g1; omega))
    · have gp : gi = 96 := by have := mt hN0.mpr g1; omega
      by_cases g2 : N 7 = 0
      · by_cases g3 : v < 1
        · exact REF (Or.inr (Or.inr (Or.inl g3))) (rc_cl_f3 (M := fm_put1 M 612 gi (nI (s0.length - 1))) (d := s0.length - 1) hn hR hg (p1_same _ _ _ _) (show s0.length - 1 < 6 by omega) gp ((T1 d1).1 7 (by decide) (by decide) ⟨by decide, by decide⟩) h7 g2 g3)
        · by_cases g4 : nI (N 3) < v
          · exact REF (Or.inr (Or.inr (Or.inr g4))) (rc_cl_f4 (M := fm_put1 M 612 gi (nI (s0.length - 1))) (d := s0.length - 1) hn hR hg (p1_same _ _ _ _) (show s0.length - 1 < 6 by omega) gp ((T1 d1).1 7 (by decide) (by decide) ⟨by decide, by decide⟩) h7 g2 g3 ((T1 d1).1 3 (by decide) (by decide) ⟨by decide, by decide⟩) g4)
          · obtain ⟨k1, k2, k3⟩ := toN_of (v := v) (a := 1) (c := N 3) (lo := 1) (hi := nI (N 3)) rfl (nI_int (by omega)) ⟨g3, g4⟩
            generalize hw : v.toInt.toNat = w at k1 k2 k3
            have hcl := rc_clone_f (l := l) (b := b) (x := x) (D := D) (dA := dA) (w := w) hn (M := fm_put1 M 612 gi (nI (s0.length - 1))) hR gp (T1 d1) (ok_take (N := N) (s0.length - 1) ok) (by rw [e1]; omega) ⟨by decide, by decide⟩ ⟨by decide, by decide⟩ g2 k2 k3 h3
            rw [← k1] at hcl
            refine fm_post (rq_12 hn hR hg hd h6 d1 hu hcl) (fun r n' M' hp => ⟨hp.1, hp.2.1, ?_⟩)
            obtain ⟨M1, m1, m2, m3, m4, m5⟩ := hp.2.2
            show rQ_g fc gi M (N, s0, p) (if 4 ≤ N 0 ∨ N 7 ≠ 0 ∨ ag_int (ag_upp (N, s0, p)) < 1 ∨ nI (N 3) < ag_int (ag_upp (N, s0, p)) then (0, 0, N, s0.take (s0.length - 1) ++ [.inl (-1)], p) else (3, ag_int (ag_upp (N, s0, p)), va_up (va_up N 3 (N 3 - (ag_int (ag_upp (N, s0, p))).toInt.toNat)) 7 1, s0.take (s0.length - 1) ++ [.inl 0], p)) _
            rw [hv, if_neg (show ¬ (4 ≤ N 0 ∨ N 7 ≠ 0 ∨ ag_int (.inl v) < 1 ∨ nI (N 3) < ag_int (.inl v)) from fun q => q.elim g1 (fun q => q.elim (fun q => q g2) (fun q => q.elim g3 g4)))]
            have hwv : (ag_int (.inl v)).toInt.toNat = w := hw
            refine ⟨⟨g, by rw [hwv]; exact m3⟩, fun e => absurd rfl e, fun _ => ?_⟩
            refine ⟨fm_put1 M1 612 gi (M.1 612 gi), ?_, ?_, ⟨g, ?_⟩, m5⟩
            · refine ⟨m1.1, fun o j a => ?_, m1.2.2⟩
              by_cases e : o = 612 ∧ j = gi
              · rw [e.1, e.2, p1_same]
              · have key : (fm_put1 M1 612 gi (M.1 612 gi)).1 o j = M1.1 o j := by
                  by_cases e3 : o = 612
                  · subst e3
                    exact p1_at (fun q => e ⟨rfl, q⟩)
                  · exact p1_other e3
                rw [key, m1.2.1 o j a]
                by_cases e3 : o = 612
                · subst e3
                  exact p1_at (fun q => e ⟨rfl, q⟩)
                · exact p1_other e3
            · refine frW_tr ?_ m2
              exact frW_put ⟨rfl, fun o j a _ _ _ => (by
                by_cases e3 : o = 612
                · subst e3
                  exact (p1_at (fun q => a ⟨by decide, by decide, q⟩)).symm
                · exact (p1_other e3).symm), fun _ _ _ _ _ _ => rfl⟩
            · show hr_G M' 97 F_f (ag_kid (N, s0.take (s0.length - 1), p) (ag_int (.inl v)).toInt.toNat) g
              rw [hwv]
              exact m4
      · exact REF (Or.inr (Or.inl g2)) (rc_cl_f2 (M := fm_put1 M 612 gi (nI (s0.length - 1))) (d := s0.length - 1) hn hR hg (p1_same _ _ _ _) (show s0.length - 1 < 6 by omega) gp ((T1 d1).1 7 (by decide) (by decide) ⟨by decide, by decide⟩) h7 g2)
  · have d1 : 1 ≤ s0.length := l1
    obtain ⟨v, hv⟩ := kind_int (lk (by decide)).2
    have hu : M.2.1 613 (6 * gi + (s0.length - 1)) = v.toInt64 := by rw [xu d1, hv]; rfl
    refine fm_post (rq_13f hn hR hg hd h6 d1 hu) (fun r n' M' hp => ⟨hp.1, hp.2.1, ?_⟩)
    rw [hp.2.2]
    show rQ_g fc gi M (N, s0, p) (0, 0, va_up N 6 (ag_int (ag_upp (N, s0, p))).toInt.toNat, s0.take (s0.length - 1), p) _
    rw [hv]
    exact ⟨⟨g, hrG_mask (k := 6) (fun q => q.2 rfl) (hrG_skip (k := 6) (fun q => q.2 rfl) (by decide) (hrG_skip (k := 6) (fun q => q.2 rfl) (by decide) (T1 d1)))⟩, fun _ => (frW_p1 (Or.inl ⟨by decide, by decide, rfl⟩) (frW_p1 (Or.inl ⟨by decide, by decide, rfl⟩) (frW_p1 (Or.inl ⟨by decide, by decide, rfl⟩) (frW_rf gi M)))), fun e => no3 e rfl⟩
  · have h8 : p.length < 8 := by simpa [ag_bnd] using hb
    refine fm_post (rq_14 hn hR hg hd h6 (rc_newPair hn hR hg h ok hca l1 h8)) (fun r n' M' hp => ⟨hp.1, hp.2.1, ?_⟩)
    exact ⟨⟨id, hp.2.2.1⟩, fun _ => hp.2.2.2, fun e => no3 e rfl⟩
  · have d1 : 1 ≤ s0.length := l1
    obtain ⟨k, hk⟩ := kind_pair (lk (by decide)).2
    have hkl : k < p.length := by
      have := (hin (by decide)).2
      rw [hk] at this
      exact this
    have hu : M.2.1 613 (6 * gi + (s0.length - 1)) = 1099511627776 + (nI (g k)).toInt64 := by rw [xu d1, hk]; rfl
    refine fm_post (rq_15 hn hR hg hd h6 d1 hu (h.2.2.1 k hkl)) (fun r n' M' hp => ⟨hp.1, hp.2.1, ?_⟩)
    rw [hp.2.2]
    show rQ_g fc gi M (N, s0, p) (0, 0, N, s0.take (s0.length - 1) ++ [(ag_fn p (ag_prn (ag_low 15 (N, s0, p)))).1], p) _
    rw [show ag_low 15 (N, s0, p) = .inr k from hk]
    exact ⟨⟨g, hrG_push e1 (h.2.2.2.2.2 k _ (fn_get hkl)).1.symm (T1 d1)⟩, fun _ => (frW_p1 (Or.inl ⟨by decide, by decide, rfl⟩) (frW_p2 (Or.inl ⟨rfl, by omega, by omega⟩) (frW_p1 (Or.inl ⟨by decide, by decide, rfl⟩) (frW_rf gi M)))), fun e => no3 e rfl⟩
  · have d1 : 1 ≤ s0.length := l1
    obtain ⟨k, hk⟩ := kind_pair (lk (by decide)).2
    have hkl : k < p.length := by
      have := (hin (by decide)).2
      rw [hk] at this
      exact this
    have hu : M.2.1 613 (6 * gi + (s0.length - 1)) = 1099511627776 + (nI (g k)).toInt64 := by rw [xu d1, hk]; rfl
    refine fm_post (rq_16 hn hR hg hd h6 d1 hu (h.2.2.1 k hkl)) (fun r n' M' hp => ⟨hp.1, hp.2.1, ?_⟩)
    rw [hp.2.2]
    show rQ_g fc gi M (N, s0, p) (0, 0, N, s0.take (s0.length - 1) ++ [(ag_fn p (ag_prn (ag_low 16 (N, s0, p)))).2], p) _
    rw [show ag_low 16 (N, s0, p) = .inr k from hk]
    exact ⟨⟨g, hrG_push e1 (h.2.2.2.2.2 k _ (fn_get hkl)).2.symm (T1 d1)⟩, fun _ => (frW_p1 (Or.inl ⟨by decide, by decide, rfl⟩) (frW_p2 (Or.inl ⟨rfl, by omega, by omega⟩) (frW_p1 (Or.inl ⟨by decide, by decide, rfl⟩) (frW_rf gi M)))), fun e => no3 e rfl⟩
  · have d2 : 2 ≤ s0.length := l1
    obtain ⟨k, hk⟩ := kind_pair (lk (by decide)).1
    have hkl : k < p.length := by
      have := (hin (by decide)).1
      rw [hk] at this
      exact this
    have hgk := h.2.2.1 k hkl
    have hgk : g k < 9 := hgk
    have hl : M.2.1 613 (6 * gi + (s0.length - 1 - 1)) = 1099511627776 + (nI (g k)).toInt64 := by rw [xl d2, show s0.getD (s0.length - 1 - 1) (.inl 0) = .inr k from hk]; rfl
    refine fm_post (rq_17 hn hR hg hd h6 d2 hl hgk) (fun r n' M' hp => ⟨hp.1, hp.2.1, ?_⟩)
    rw [hp.2.2]
    show rQ_g fc gi M (N, s0, p) (0, 0, N, s0.take (s0.length - 2), p.set (ag_prn (ag_low 17 (N, s0, p))) (ag_upp (N, s0, p), (ag_fn p (ag_prn (ag_low 17 (N, s0, p)))).2)) _
    rw [show ag_low 17 (N, s0, p) = .inr k from hk]
    exact ⟨⟨g, hrG_set1 hkl (xu (by omega)).symm (T2 d2)⟩, fun _ => frW_p2 (Or.inr (Or.inl ⟨by decide, by omega, by omega⟩)) (frW_p1 (Or.inl ⟨by decide, by decide, rfl⟩) (frW_p1 (Or.inl ⟨by decide, by decide, rfl⟩) (frW_rf gi M))), fun e => no3 e rfl⟩
  · have d2 : 2 ≤ s0.length := l1
    obtain ⟨k, hk⟩ := kind_pair (lk (by decide)).1
    have hkl : k < p.length := by
      have := (hin (by decide)).1
      rw [hk] at this
      exact this
    have hgk := h.2.2.1 k hkl
    have hgk : g k < 9 := hgk
    have hl : M.2.1 613 (6 * gi + (s0.length - 1 - 1)) = 1099511627776 + (nI (g k)).toInt64 := by rw [xl d2, show s0.getD (s0.length - 1 - 1) (.inl 0) = .inr k from hk]; rfl
    refine fm_post (rq_18 hn hR hg hd h6 d2 hl hgk) (fun r n' M' hp => ⟨hp.1, hp.2.1, ?_⟩)
    rw [hp.2.2]
    show rQ_g fc gi M (N, s0, p) (0, 0, N, s0.take (s0.length - 2), p.set (ag_prn (ag_low 18 (N, s0, p))) ((ag_fn p (ag_prn (ag_low 18 (N, s0, p)))).1, ag_upp (N, s0, p))) _
    rw [show ag_low 18 (N, s0, p) = .inr k from hk]
    exact ⟨⟨g, hrG_set2 hkl (xu (by omega)).symm (T2 d2)⟩, fun _ => frW_p2 (Or.inr (Or.inl ⟨by decide, by omega, by omega⟩)) (frW_p1 (Or.inl ⟨by decide, by decide, rfl⟩) (frW_p1 (Or.inl ⟨by decide, by decide, rfl⟩) (frW_rf gi M))), fun e => no3 e rfl⟩
  · have d2 : 2 ≤ s0.length := l1
    have hiL := (hin (by decide)).1
    have hiU := (hin (by decide)).2
    by_cases g1 : ag_low 19 (N, s0, p) = ag_upp (N, s0, p)
    · have hx : M.2.1 613 (6 * gi + (s0.length - 1 - 1)) = M.2.1 613 (6 * gi + (s0.length - 1)) := by
        rw [xl d2, xu (by omega), ← g1]
        rfl
      refine fm_post (rq_19e hn hR hg hd h6 d2 hx) (fun r n' M' hp => ⟨hp.1, hp.2.1, ?_⟩)
      rw [hp.2.2]
      show rQ_g fc gi M (N, s0, p) (0, 0, N, s0.take (s0.length - 2) ++ [.inl (if ag_low 19 (N, s0, p) = ag_upp (N, s0, p) then 1 else 0)], p) _
      rw [if_pos g1]
      exact ⟨⟨g, hrG_push e2 rfl (T2 d2)⟩, fun _ => (frW_p1 (Or.inl ⟨by decide, by decide, rfl⟩) (frW_p2 (Or.inl ⟨rfl, by omega, by omega⟩) (frW_p1 (Or.inl ⟨by decide, by decide, rfl⟩) (frW_p1 (Or.inl ⟨by decide, by decide, rfl⟩) (frW_rf gi M))))), fun e => no3 e rfl⟩
    · have hx : ¬ M.2.1 613 (6 * gi + (s0.length - 1 - 1)) = M.2.1 613 (6 * gi + (s0.length - 1)) := by
        intro q
        rw [xl d2, xu (by omega)] at q
        exact g1 (map_inj h.2.2.2.1 hiL hiU (e64_inj (map_ok h hiL) (map_ok h hiU) q))
      refine fm_post (rq_19n hn hR hg hd h6 d2 hx) (fun r n' M' hp => ⟨hp.1, hp.2.1, ?_⟩)
      rw [hp.2.2]
      show rQ_g fc gi M (N, s0, p) (0, 0, N, s0.take (s0.length - 2) ++ [.inl (if ag_low 19 (N, s0, p) = ag_upp (N, s0, p) then 1 else 0)], p) _
      rw [if_neg g1]
      exact ⟨⟨g, hrG_push e2 rfl (T2 d2)⟩, fun _ => (frW_p1 (Or.inl ⟨by decide, by decide, rfl⟩) (frW_p2 (Or.inl ⟨rfl, by omega, by omega⟩) (frW_p1 (Or.inl ⟨by decide, by decide, rfl⟩) (frW_p1 (Or.inl ⟨by decide, by decide, rfl⟩) (frW_rf gi M))))), fun e => no3 e rfl⟩
theorem rc_work_g {l : Launch} {b : Nat} {x : Nat → Nat} {D : va_G} {dA : Nat → ClassId} {fc gi he n : Nat} {N : Nat → Nat} {s0 : List bf_V} {p : List (bf_V × bf_V)} {g : Nat → Nat} {sc : List Nat} {tbl : Nat → Int32} {M : fm_M} (hn : 629 ≤ n) (hR : fm_RP M) (hfh : M.1 586 46 = nI he) (hh : he < 4) (hg9 : gi = 96 ∨ gi = 97) (hN0 : 4 ≤ N 0 ↔ gi = 97) (hfc : M.1 586 48 = nI fc) (hf16 : fc < 16) (h : hr_G M gi F_f (N, s0, p) g) (ok : ag_ok (N, s0, p)) (hca : ag_can (N, s0, p) = (N, s0, p)) (hp : N 1 < 4) (hs : hs_R M (N 1) sc) (htb : ∀ k, k < 8 → M.1 589 (8 * he + k) = tbl k) (b2 : N 2 < 900) (b3 : 1 ≤ N 3) (b3' : N 3 < 1000) (b5 : N 5 < 1000) (b7 : N 7 ≤ 1) : Met l y_Mo_work (Cond.code y_Mo_work b_Mo_work 9 (some .boolean) :: fm_T0) ({ frames := 7, cells := 0, slots := 0, locals := 210 }) (fm_Pc fm_lay fm_nf fm_fk fm_cl b x D dA (fm_tys dA) (fm_EX b x) false [.ref 586, .int (nI gi), .int (-1)] n M) (fm_Qc fm_lay fm_nf fm_fk fm_cl b x D dA (fun r n' M' => r = some (.int (nI (if (ag_step sc tbl he (N, s0, p)).1 = 5 then 0 else 1))) ∧ n' = n ∧ rW_g fc gi M (N, s0, p) (ag_step sc tbl he (N, s0, p)) M')) 0 0 (fm_A b) := by
  have hg : gi < 98 := by omega
  have h605 : M.1 605 gi = nI (N 1) := h.1 1 (by decide) (by decide) ⟨by decide, by decide⟩
  have h606 : M.1 606 gi = nI (N 2) := h.1 2 (by decide) (by decide) ⟨by decide, by decide⟩
  have h607 : M.1 607 gi = nI (N 3) := h.1 3 (by decide) (by decide) ⟨by decide, by decide⟩
  have hE : hr_G (fm_put1 (fm_put1 M 607 gi (nI (N 3 - 1))) 586 50 (nI 0)) gi F_f (va_up N 3 (N 3 - 1), s0, p) g := hrG_o1 (Or.inl (by decide)) (hrG_num (k := 3) (by decide) (by decide) h)
  have fE : fr_W gi (fm_put1 M 586 50 (nI 0)) (fm_put1 (fm_put1 M 607 gi (nI (N 3 - 1))) 586 50 (nI 0)) := frW_put (frW_p1 (Or.inl ⟨by decide, by decide, rfl⟩) (frW_rf gi M))
  have okE : ag_ok (va_up N 3 (N 3 - 1), s0, p) := ok
  have caE : ∀ N', ag_can (N', s0, p) = (N', s0, p) := fun N' => by
    have e : (ag_can (N, s0, p)).2 = (s0, p) := by rw [hca]
    show (N', (ag_can (N, s0, p)).2) = _
    rw [e]
  have N5 : va_up N 3 (N 3 - 1) 5 = N 5 := fm_upN (by decide)
  cases hr : ag_read sc (N 2) with
  | none =>
    have eS : (ag_step sc tbl he (N, s0, p)) = (5, 0, va_up N 3 (N 3 - 1), s0, p) := by
      unfold ag_step
      show (match ag_read sc (N 2) with | none => _ | some (c, y) => _) = _
      rw [hr]
    rw [eS]
    have done : ∀ M', M' = fm_put1 (fm_put1 M 607 gi (nI (N 3 - 1))) 586 50 (nI 0) → rW_g fc gi M (N, s0, p) (5, 0, va_up N 3 (N 3 - 1), s0, p) M' := by
      intro M' e
      rw [e]
      exact ⟨⟨g, hE⟩, fun _ => fE, fun e => no3 e rfl⟩
    rcases rd_none hr with g1 | ⟨c, g1, g2⟩ | ⟨c, g1, g2, g3, g4⟩
    · exact fm_post (wk_1 hn hR hg hp h605 hs.1 hs.2.1 h606 b2 h607 b3 b3' (List.getElem?_eq_none_iff.mp g1)) (fun r n' M' q => ⟨q.1, q.2.1, done _ q.2.2⟩)
    · have hcc := hs.2.2 _ _ g1
      exact fm_post (wk_2 hn hR hg hp h605 hs.1 hs.2.1 h606 b2 h607 b3 b3' (List.getElem?_eq_some_iff.mp g1).1 hcc.1 hcc.2 (sz_big g2) g2) (fun r n' M' q => ⟨q.1, q.2.1, done _ q.2.2⟩)
    · have hcc := hs.2.2 _ _ g1
      have g5 := List.getElem?_eq_none_iff.mp g4
      exact fm_post (wk_3 hn hR hg hp h605 hs.1 hs.2.1 h606 b2 h607 b3 b3' (List.getElem?_eq_some_iff.mp g1).1 hcc.1 hcc.2 g3 g2 (by omega)) (fun r n' M' q => ⟨q.1, q.2.1, done _ q.2.2⟩)
  | some cy =>
    obtain ⟨c, y⟩ := cy
    obtain ⟨r1, r2, r3⟩ := rd_some hr
    have hcc := hs.2.2 _ _ r1
    have hlt := (List.getElem?_eq_some_iff.mp r1).1
    have hy2 : y < 256 := by
      rcases r3 with ⟨_, q⟩ | ⟨_, q⟩
      · exact (hs.2.2 _ _ q).2
      · omega
    have hif := rc_isFit (l := l) (b := b) (x := x) (D := D) (dA := dA) (M := fm_put1 (fm_put1 M 607 gi (nI (N 3 - 1))) 586 50 (nI 0)) (c := c) (y := y) hn hR hg hE okE (caE _) ⟨by decide, by decide⟩ (by show va_up N 3 (N 3 - 1) 5 < 1000; rw [N5]; exact b5) (by omega) hy2
    rw [show (ag_takes c (va_up N 3 (N 3 - 1), s0, p) && ag_bnd c y (va_up N 3 (N 3 - 1), s0, p)) = (ag_takes c (N, s0, p) && ag_bnd c y (N, s0, p)) by rw [bnd_any (N := N) N5]; rfl] at hif
    have hrd : ag_step sc tbl he (N, s0, p) = if ag_takes c (N, s0, p) && ag_bnd c y (N, s0, p) then ((ag_do c y tbl he (va_up (va_up N 3 (N 3 - 1)) 2 (N 2 + ag_sz c)) (s0.take (s0.length - ag_tk c)) p (ag_low c (N, s0, p)) (ag_upp (N, s0, p))).1, (ag_do c y tbl he (va_up (va_up N 3 (N 3 - 1)) 2 (N 2 + ag_sz c)) (s0.take (s0.length - ag_tk c)) p (ag_low c (N, s0, p)) (ag_upp (N, s0, p))).2.1, ag_can (ag_do c y tbl he (va_up (va_up N 3 (N 3 - 1)) 2 (N 2 + ag_sz c)) (s0.take (s0.length - ag_tk c)) p (ag_low c (N, s0, p)) (ag_upp (N, s0, p))).2.2) else (5, 0, va_up N 3 (N 3 - 1), s0, p) := by
      unfold ag_step
      show (match ag_read sc (N 2) with | none => _ | some (c, y) => _) = _
      rw [hr]
    cases hfit : (ag_takes c (N, s0, p) && ag_bnd c y (N, s0, p)) with
    | false =>
      rw [hfit] at hif hrd
      have eS : (ag_step sc tbl he (N, s0, p)) = (5, 0, va_up N 3 (N 3 - 1), s0, p) := hrd
      rw [eS]
      have done : ∀ M', fr_K (fm_put1 (fm_put1 M 607 gi (nI (N 3 - 1))) 586 50 (nI 0)) M' → rW_g fc gi M (N, s0, p) (5, 0, va_up N 3 (N 3 - 1), s0, p) M' := by
        intro M' e
        exact ⟨⟨g, hrG_K e hE⟩, fun _ => frW_tr fE (frW_K e), fun e => no3 e rfl⟩
      rcases r3 with ⟨z, q⟩ | ⟨z, q⟩
      · have hyy := hs.2.2 _ _ q
        exact fm_post (wk_4w hn hR hg hp h605 hs.1 hs.2.1 h606 b2 h607 b3 b3' hlt hcc.1 hcc.2 z r2 (List.getElem?_eq_some_iff.mp q).1 hyy.1 hyy.2 hif) (fun r n' M' q => ⟨q.1, q.2.1, done _ q.2.2⟩)
      · subst q
        exact fm_post (wk_4n hn hR hg hp h605 hs.1 hs.2.1 h606 b2 h607 b3 b3' hlt hcc.1 hcc.2 (by omega) r2 hif) (fun r n' M' q => ⟨q.1, q.2.1, done _ q.2.2⟩)
    | true =>
      rw [hfit] at hif hrd
      rw [if_pos rfl] at hrd
      have ht : ag_takes c (N, s0, p) = true := (Bool.and_eq_true _ _ |>.mp hfit).1
      have hb : ag_bnd c y (N, s0, p) = true := (Bool.and_eq_true _ _ |>.mp hfit).2
      generalize hbh : N 2 + ag_sz c = bh at hrd
      have N25 : va_up (va_up N 3 (N 3 - 1)) 2 bh 5 = N 5 := (fm_upN (by decide)).trans N5
      have hdo : ∀ Mk, fr_K (fm_put1 (fm_put1 M 607 gi (nI (N 3 - 1))) 586 50 (nI 0)) Mk → _ := fun Mk e => rc_do_g (l := l) (b := b) (x := x) (D := D) (dA := dA) (n := n) (fc := fc) (gi := gi) (he := he) (c := c) (y := y) (N := va_up (va_up N 3 (N 3 - 1)) 2 bh) (s0 := s0) (p := p) (g := g) (tbl := tbl) (M := fm_put1 Mk 606 gi (nI bh)) hn (show fm_RP Mk from frK_RP (M := fm_put1 (fm_put1 M 607 gi (nI (N 3 - 1))) 586 50 (nI 0)) e hR) ((p1_other (by decide)).trans ((e.2 586 46 (by decide) (by decide) (by decide)).trans ((p1_at (by decide)).trans ((p1_other (by decide)).trans hfh)))) hh hg9 (by rw [show va_up (va_up N 3 (N 3 - 1)) 2 bh 0 = N 0 from (fm_upN (by decide)).trans (fm_upN (by decide))]; exact hN0) ((p1_other (by decide)).trans ((e.2 586 48 (by decide) (by decide) (by decide)).trans ((p1_at (by decide)).trans ((p1_other (by decide)).trans hfc)))) hf16 (hrG_num (k := 2) (by decide) (by decide) (hrG_K e hE)) ok (caE _) (fun k hk => (p1_other (by decide)).trans ((e.2 589 _ (by decide) (by decide) (fun q => absurd q.1 (by decide))).trans ((p1_other (by decide)).trans ((p1_other (by decide)).trans (htb k hk))))) (by rw [show va_up (va_up N 3 (N 3 - 1)) 2 bh 3 = N 3 - 1 from (fm_upN (by decide)).trans fm_upS]; omega) (by rw [N25]; exact b5) (by rw [show va_up (va_up N 3 (N 3 - 1)) 2 bh 7 = N 7 from (fm_upN (by decide)).trans (fm_upN (by decide))]; exact b7) (by omega) hy2 ht ((bnd_any (N := N) N25).trans hb)
      have okd := ok_do (he := he) (tbl := tbl) (N := va_up (va_up N 3 (N 3 - 1)) 2 bh) ok (by omega) ht hb
      have hle := do_le (y := y) (he := he) (tbl := tbl) (N := va_up (va_up N 3 (N 3 - 1)) 2 bh) (s := s0.take (s0.length - ag_tk c)) (p := p) (lo := ag_low c (N, s0, p)) (up := ag_upp (N, s0, p)) (show c < 20 by omega)
      have okd : ag_ok (ag_do c y tbl he (va_up (va_up N 3 (N 3 - 1)) 2 bh) (s0.take (s0.length - ag_tk c)) p (ag_low c (N, s0, p)) (ag_upp (N, s0, p))).2.2 := okd
      have hdo : ∀ Mk, fr_K (fm_put1 (fm_put1 M 607 gi (nI (N 3 - 1))) 586 50 (nI 0)) Mk → Met l y_Mo_perform (Cond.code y_Mo_perform b_Mo_perform 5 none :: fm_T0) ({ frames := 6, cells := 0, slots := 0, locals := 170 }) (fm_Pc fm_lay fm_nf fm_fk fm_cl b x D dA (fm_tys dA) (fm_EX b x) false [.ref 586, .int (nI gi), .int (-1), .int (nI c), .int (nI y)] n (fm_put1 Mk 606 gi (nI bh))) (fm_Qc fm_lay fm_nf fm_fk fm_cl b x D dA (fun r n' M' => r = none ∧ n' = n ∧ rQ_g fc gi (fm_put1 Mk 606 gi (nI bh)) (va_up (va_up N 3 (N 3 - 1)) 2 bh, s0, p) (ag_do c y tbl he (va_up (va_up N 3 (N 3 - 1)) 2 bh) (s0.take (s0.length - ag_tk c)) p (ag_low c (N, s0, p)) (ag_upp (N, s0, p))) M')) 0 0 (fm_A b) := hdo
      generalize hdd : ag_do c y tbl he (va_up (va_up N 3 (N 3 - 1)) 2 bh) (s0.take (s0.length - ag_tk c)) p (ag_low c (N, s0, p)) (ag_upp (N, s0, p)) = dd at hrd hdo okd hle
      rw [hrd]
      have done : ∀ Mk M', fr_K (fm_put1 (fm_put1 M 607 gi (nI (N 3 - 1))) 586 50 (nI 0)) Mk → rQ_g fc gi (fm_put1 Mk 606 gi (nI bh)) (va_up (va_up N 3 (N 3 - 1)) 2 bh, s0, p) dd M' → rW_g fc gi M (N, s0, p) (dd.1, dd.2.1, ag_can dd.2.2) M' := by
        intro Mk M' e q
        obtain ⟨⟨g', q1⟩, q2, q3⟩ := q
        have fP : fr_W gi (fm_put1 M 586 50 (nI 0)) (fm_put1 Mk 606 gi (nI bh)) := frW_p1 (Or.inl ⟨by decide, by decide, rfl⟩) (frW_tr fE (frW_K e))
        refine ⟨hrG_can okd q1, fun k => ?_, fun k => ?_⟩
        · have q2 := q2 k
          exact frW_tr (frW_Ef fP) q2
        · obtain ⟨M1, m1, m2, ⟨g2, m3⟩, m4⟩ := q3 k
          have e12 := hle.2 k
          subst e12
          have hbh2 : bh = N 2 + 1 := hbh.symm
          refine ⟨frW2_tr (M1 := fm_put1 M1 586 47 (nI 1)) (frW2_put (frW2_tr (frW2_W fP) (frW2_R m1))) (frW2_W m2), ?_, m4⟩
          rw [hbh2] at m3
          exact hrG_can (ok_kid (ok_take (N := N) (s0.length - 1) ok) (by
            have l2 := (take_len ht).2.1
            have l1 := (take_len ht).1
            have l1 : 1 ≤ s0.length := l1
            have l6 : s0.length ≤ 6 := ok.1
            show (s0.take (s0.length - 1)).length < 6
            rw [List.length_take]
            omega)) m3
      have e1 : (if ((dd.1, dd.2.1, ag_can dd.2.2) : Nat × Int32 × ag_T).1 = 5 then 0 else 1 : Nat) = 1 := if_neg (fun q => by
        have q : dd.1 = 5 := q
        omega)
      rw [e1]
      rcases r3 with ⟨z, q⟩ | ⟨z, q⟩
      · have hyy := hs.2.2 _ _ q
        have hbh2 : bh = N 2 + 2 := by omega
        subst hbh2
        refine fm_post (wk_5w (PR := fun M' => ∃ Mk, fr_K (fm_put1 (fm_put1 M 607 gi (nI (N 3 - 1))) 586 50 (nI 0)) Mk ∧ rQ_g fc gi (fm_put1 Mk 606 gi (nI (N 2 + 2))) (va_up (va_up N 3 (N 3 - 1)) 2 (N 2 + 2), s0, p) dd M') hn hR hg hp h605 hs.1 hs.2.1 h606 b2 h607 b3 b3' hlt hcc.1 hcc.2 z r2 (List.getElem?_eq_some_iff.mp q).1 hyy.1 hyy.2 hif (fun Mk e => fm_post (hdo Mk e) (fun r n' M' q => ⟨q.1, q.2.1, Mk, e, q.2.2⟩))) (fun r n' M' q => ⟨q.1, q.2.1, ?_⟩)
        obtain ⟨Mk, e, q5⟩ := q.2.2
        exact done Mk M' e q5
      · have hbh2 : bh = N 2 + 1 := by omega
        subst hbh2
        subst q
        refine fm_post (wk_5n (PR := fun M' => ∃ Mk, fr_K (fm_put1 (fm_put1 M 607 gi (nI (N 3 - 1))) 586 50 (nI 0)) Mk ∧ rQ_g fc gi (fm_put1 Mk 606 gi (nI (N 2 + 1))) (va_up (va_up N 3 (N 3 - 1)) 2 (N 2 + 1), s0, p) dd M') hn hR hg hp h605 hs.1 hs.2.1 h606 b2 h607 b3 b3' hlt hcc.1 hcc.2 (by omega) r2 hif (fun Mk e => fm_post (hdo Mk e) (fun r n' M' q => ⟨q.1, q.2.1, Mk, e, q.2.2⟩))) (fun r n' M' q => ⟨q.1, q.2.1, ?_⟩)
        obtain ⟨Mk, e, q5⟩ := q.2.2
        exact done Mk M' e q5
