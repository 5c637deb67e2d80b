/-! THE REFERENCE: work entire -/
def fr_W2 (gi gc : Nat) (M M' : fm_M) : Prop := M'.2.2 = M.2.2 ∧ (∀ o j, ¬ (605 ≤ o ∧ o ≤ 614 ∧ (j = gi ∨ j = gc)) → o ≠ 617 → o ≠ 618 → ¬ (o = 586 ∧ j = 32) → M'.1 o j = M.1 o j) ∧ (∀ o j, ¬ (o = 613 ∧ (6 * gi ≤ j ∧ j < 6 * gi + 6 ∨ 6 * gc ≤ j ∧ j < 6 * gc + 6)) → ¬ ((o = 615 ∨ o = 616) ∧ (9 * gi ≤ j ∧ j < 9 * gi + 9 ∨ 9 * gc ≤ j ∧ j < 9 * gc + 9)) → o ≠ 619 → o ≠ 620 → M'.2.1 o j = M.2.1 o j)
theorem frW2_tr {gi gc : Nat} {M M1 M2 : fm_M} (h : fr_W2 gi gc M M1) (g : fr_W2 gi gc M1 M2) : fr_W2 gi gc M M2 := ⟨g.1.trans h.1, fun o j a b c d => (g.2.1 o j a b c d).trans (h.2.1 o j a b c d), fun o j a b c d => (g.2.2 o j a b c d).trans (h.2.2 o j a b c d)⟩
theorem frW2_W {gi gc : Nat} {M M' : fm_M} (h : fr_W gi M M') : fr_W2 gi gc M M' := ⟨h.1, fun o j a b c d => h.2.1 o j (fun e => a ⟨e.1, e.2.1, Or.inl e.2.2⟩) b c d, fun o j a b c d => h.2.2 o j (fun e => a ⟨e.1, Or.inl e.2⟩) (fun e => b ⟨e.1, Or.inl e.2⟩) c d⟩
theorem frW2_R {gi gc : Nat} {M M' : fm_M} (h : mv_R gc M M') : fr_W2 gi gc M M' := ⟨h.1, fun o j a _ _ _ => h.2.1 o j (fun e => a ⟨e.1, e.2.1, Or.inr e.2.2⟩), fun o j a b _ _ => h.2.2 o j (fun e => a ⟨e.1, Or.inr e.2⟩) (fun e => b ⟨e.1, Or.inr e.2⟩)⟩
theorem frW2_put {gi gc : Nat} {M M1 : fm_M} {o j : Nat} {v : Int32} (h : fr_W2 gi gc M M1) : fr_W2 gi gc (fm_put1 M o j v) (fm_put1 M1 o j v) := by
  refine ⟨h.1, fun q i a b c d => ?_, h.2.2⟩
  by_cases e : q = o
  · subst e
    by_cases e2 : i = j
    · subst e2
      rw [p1_same, p1_same]
    · rw [p1_at e2, p1_at e2]
      exact h.2.1 q i a b c d
  · rw [p1_other e, p1_other e]
    exact h.2.1 q i a b c d
theorem frW_Em {gi k sd : Nat} {v : Int32} {M M1 : fm_M} (h : fr_W gi M M1) : fr_W gi (rE_m gi k v sd M) (rE_m gi k v sd M1) := by
  unfold rE_m
  split
  · exact frW_put (frW_put h)
  · exact frW_put (frW_put (frW_put h))
  · exact frW_put h
  · exact h
theorem frW_Ef {gi k sd : Nat} {v : Int32} {M M1 : fm_M} (h : fr_W gi M M1) : fr_W gi (rE_f k v sd M) (rE_f k v sd M1) := by
  unfold rE_f
  split
  · exact frW_put (frW_put h)
  · exact frW_put h
  · exact frW_put h
  · exact h
theorem hrG_K {M M' : fm_M} {r : Nat} {F : Nat → Prop} {A : ag_T} {g : Nat → Nat} (k : fr_K M M') (h : hr_G M r F A g) : hr_G M' r F A g := by
  obtain ⟨h1, h2, h3, h4, h5, h6⟩ := h
  have e : M'.2.1 = M.2.1 := by rw [k.1]
  refine ⟨fun j a b f => (k.2 _ _ (by omega) (by omega) (fun q => by omega)).trans (h1 j a b f), (k.2 _ _ (by decide) (by decide) (fun q => by omega)).trans h2, h3, h4, ?_, ?_⟩
  · rw [e]; exact h5
  · rw [e]; exact h6
def ag_kidOf (A : ag_T) (w : Nat) : ag_T := ag_can (ag_kid (va_up (va_up A.1 3 (A.1 3 - 1)) 2 (A.1 2 + 1), A.2.1.take (A.2.1.length - 1), A.2.2) w)
def rW_m (gi : Nat) (M : fm_M) (A : ag_T) (st : Nat × Int32 × ag_T) (M' : fm_M) : Prop := (∃ g', hr_G M' gi F_m st.2.2 g') ∧ (st.1 ≠ 3 → fr_W gi (rE_m gi st.1 st.2.1 (A.1 5) (fm_put1 M 586 50 (nI 0))) M') ∧ (st.1 = 3 → fr_W2 gi (gi + 4) (m_arrive (fm_put1 M 586 50 (nI 0)) (gi + 4) (nI 0) (-1)) M' ∧ (∃ g', hr_G M' (gi + 4) F_m (ag_kidOf A st.2.1.toInt.toNat) g') ∧ M'.1 611 (gi + 4) = nI 0)
def rW_f (gi : Nat) (M : fm_M) (A : ag_T) (st : Nat × Int32 × ag_T) (M' : fm_M) : Prop := (∃ g', hr_G M' gi F_f st.2.2 g') ∧ (st.1 ≠ 3 → fr_W gi (rE_f st.1 st.2.1 (A.1 5) (fm_put1 M 586 50 (nI 0))) M') ∧ (st.1 = 3 → fr_W2 gi 97 (fm_put1 (fm_put1 M 586 50 (nI 0)) 586 47 (nI 1)) M' ∧ (∃ g', hr_G M' 97 F_f (ag_kidOf A st.2.1.toInt.toNat) g') ∧ M'.1 611 97 = nI 0)
theorem bnd_any {c y : Nat} {N N' : Nat → Nat} {q : List bf_V × List (bf_V × bf_V)} (h : N' 5 = N 5) : ag_bnd c y (N', q) = ag_bnd c y (N, q) := by
  unfold ag_bnd
  split <;> first | rfl | (show decide (N' 5 < 16) = decide (N 5 < 16); rw [h])
theorem sz_big {c : Nat} (h : 19 < c) : ¬ ag_sz c = 2 := by
  unfold ag_sz
  rw [if_neg (by omega)]
  decide
theorem do_le {c y he : Nat} {tbl : Nat → Int32} {N : Nat → Nat} {s : List bf_V} {p : List (bf_V × bf_V)} {lo up : bf_V} (hc : c < 20) : (ag_do c y tbl he N s p lo up).1 ≤ 4 ∧ ((ag_do c y tbl he N s p lo up).1 = 3 → c = 12) := by
  rcases (show c = 0 ∨ c = 1 ∨ c = 2 ∨ c = 3 ∨ c = 4 ∨ c = 5 ∨ c = 6 ∨ c = 7 ∨ c = 8 ∨ c = 9 ∨ c = 10 ∨ c = 11 ∨ c = 12 ∨ c = 13 ∨ c = 14 ∨ c = 15 ∨ c = 16 ∨ c = 17 ∨ c = 18 ∨ c = 19 by omega) with rfl | rfl | rfl | rfl | rfl | rfl | rfl | rfl | rfl | rfl | rfl | rfl | rfl | rfl | rfl | rfl | rfl | rfl | rfl | rfl
  · exact ⟨Nat.le_of_ble_eq_true rfl, fun e => no3 e rfl⟩
  · exact ⟨Nat.le_of_ble_eq_true rfl, fun e => no3 e rfl⟩
  · exact ⟨Nat.le_of_ble_eq_true rfl, fun e => no3 e rfl⟩
  · exact ⟨Nat.le_of_ble_eq_true rfl, fun e => no3 e rfl⟩
  · exact ⟨Nat.le_of_ble_eq_true rfl, fun e => no3 e rfl⟩
  · exact ⟨Nat.le_of_ble_eq_true rfl, fun e => no3 e rfl⟩
  · exact ⟨Nat.le_of_ble_eq_true rfl, fun e => no3 e rfl⟩
  · exact ⟨Nat.le_of_ble_eq_true rfl, fun e => no3 e rfl⟩
  · exact ⟨Nat.le_of_ble_eq_true rfl, fun e => no3 e rfl⟩
  · show (if ag_int up = nI he then (0, 0, N, s, p) else (2, ag_int up, va_up N 4 (N 4 + 1), s, p) : Nat × Int32 × ag_T).1 ≤ 4 ∧ ((if ag_int up = nI he then (0, 0, N, s, p) else (2, ag_int up, va_up N 4 (N 4 + 1), s, p) : Nat × Int32 × ag_T).1 = 3 → 9 = 12)
    split
    · exact ⟨Nat.le_of_ble_eq_true rfl, fun e => no3 e rfl⟩
    · exact ⟨Nat.le_of_ble_eq_true rfl, fun e => no3 e rfl⟩
  · exact ⟨Nat.le_of_ble_eq_true rfl, fun e => no3 e rfl⟩
  · exact ⟨Nat.le_of_ble_eq_true rfl, fun e => no3 e rfl⟩
  · refine ⟨?_, fun _ => rfl⟩
    show (if 4 ≤ N 0 ∨ N 7 ≠ 0 ∨ ag_int up < 1 ∨ nI (N 3) < ag_int up then (0, 0, N, s ++ [.inl (-1)], p) else (3, ag_int up, va_up (va_up N 3 (N 3 - (ag_int up).toInt.toNat)) 7 1, s ++ [.inl 0], p) : Nat × Int32 × ag_T).1 ≤ 4
    split <;> exact Nat.le_of_ble_eq_true rfl
  · exact ⟨Nat.le_of_ble_eq_true rfl, fun e => no3 e rfl⟩
  · exact ⟨Nat.le_of_ble_eq_true rfl, fun e => no3 e rfl⟩
  · exact ⟨Nat.le_of_ble_eq_true rfl, fun e => no3 e rfl⟩
  · exact ⟨Nat.le_of_ble_eq_true rfl, fun e => no3 e rfl⟩
  · exact ⟨Nat.le_of_ble_eq_true rfl, fun e => no3 e rfl⟩
  · exact ⟨Nat.le_of_ble_eq_true rfl, fun e => no3 e rfl⟩
  · exact ⟨Nat.le_of_ble_eq_true rfl, fun e => no3 e rfl⟩
theorem rc_work_m {l : Launch} {b : Nat} {x : Nat → Nat} {D : va_G} {dA : Nat → ClassId} {gi he n : Nat} {N : Nat → Nat} {s0 : List bf_V} {p : List (bf_V × bf_V)} {g : Nat → Nat} {sc : List Nat} {tbl : Nat → Int32} {M : fm_M} (hn : 629 ≤ n) (hR : fm_RP M) (hh : he < 4) (hg9 : gi < 96) (hN0 : 4 ≤ N 0 ↔ 4 ≤ gi % 8) (h : hr_G M gi F_m (N, s0, p) g) (ok : ag_ok (N, s0, p)) (hca : ag_can (N, s0, p) = (N, s0, p)) (hp : N 1 < 4) (hs : hs_R M (N 1) sc) (htb : ∀ k, k < 8 → M.1 589 (8 * he + k) = tbl k) (b2 : N 2 < 900) (b3 : 1 ≤ N 3) (b3' : N 3 < 1000) (b5 : N 5 < 1000) (b7 : N 7 ≤ 1) : Met l y_Mo_work (Cond.code y_Mo_work b_Mo_work 9 (some .boolean) :: fm_T0) ({ frames := 7, cells := 0, slots := 0, locals := 210 }) (fm_Pc fm_lay fm_nf fm_fk fm_cl b x D dA (fm_tys dA) (fm_EX b x) false [.ref 586, .int (nI gi), .int (nI he)] n M) (fm_Qc fm_lay fm_nf fm_fk fm_cl b x D dA (fun r n' M' => r = some (.int (nI (if (ag_step sc tbl he (N, s0, p)).1 = 5 then 0 else 1))) ∧ n' = n ∧ rW_m gi M (N, s0, p) (ag_step sc tbl he (N, s0, p)) M')) 0 0 (fm_A b) := by
  have hg : gi < 98 := by omega
  have h605 : M.1 605 gi = nI (N 1) := h.1 1 (by decide) (by decide) trivial
  have h606 : M.1 606 gi = nI (N 2) := h.1 2 (by decide) (by decide) trivial
  have h607 : M.1 607 gi = nI (N 3) := h.1 3 (by decide) (by decide) trivial
  have hE : hr_G (fm_put1 (fm_put1 M 607 gi (nI (N 3 - 1))) 586 50 (nI 0)) gi F_m (va_up N 3 (N 3 - 1), s0, p) g := hrG_o1 (Or.inl (by decide)) (hrG_num (k := 3) (by decide) (by decide) h)
  have fE : fr_W gi (fm_put1 M 586 50 (nI 0)) (fm_put1 (fm_put1 M 607 gi (nI (N 3 - 1))) 586 50 (nI 0)) := frW_put (frW_p1 (Or.inl ⟨by decide, by decide, rfl⟩) (frW_rf gi M))
  have okE : ag_ok (va_up N 3 (N 3 - 1), s0, p) := ok
  have caE : ∀ N', ag_can (N', s0, p) = (N', s0, p) := fun N' => by
    have e : (ag_can (N, s0, p)).2 = (s0, p) := by rw [hca]
    show (N', (ag_can (N, s0, p)).2) = _
    rw [e]
  have N5 : va_up N 3 (N 3 - 1) 5 = N 5 := fm_upN (by decide)
  cases hr : ag_read sc (N 2) with
  | none =>
    have eS : (ag_step sc tbl he (N, s0, p)) = (5, 0, va_up N 3 (N 3 - 1), s0, p) := by
      unfold ag_step
      show (match ag_read sc (N 2) with | none => _ | some (c, y) => _) = _
      rw [hr]
    rw [eS]
    have done : ∀ M', M' = fm_put1 (fm_put1 M 607 gi (nI (N 3 - 1))) 586 50 (nI 0) → rW_m gi M (N, s0, p) (5, 0, va_up N 3 (N 3 - 1), s0, p) M' := by
      intro M' e
      rw [e]
      exact ⟨⟨g, hE⟩, fun _ => fE, fun e => no3 e rfl⟩
    rcases rd_none hr with g1 | ⟨c, g1, g2⟩ | ⟨c, g1, g2, g3, g4⟩
    · exact fm_post (wk_1 hn hR hg hp h605 hs.1 hs.2.1 h606 b2 h607 b3 b3' (List.getElem?_eq_none_iff.mp g1)) (fun r n' M' q => ⟨q.1, q.2.1, done _ q.2.2⟩)
    · have hcc := hs.2.2 _ _ g1
      exact fm_post (wk_2 hn hR hg hp h605 hs.1 hs.2.1 h606 b2 h607 b3 b3' (List.getElem?_eq_some_iff.mp g1).1 hcc.1 hcc.2 (sz_big g2) g2) (fun r n' M' q => ⟨q.1, q.2.1, done _ q.2.2⟩)
    · have hcc := hs.2.2 _ _ g1
      have g5 := List.getElem?_eq_none_iff.mp g4
      exact fm_post (wk_3 hn hR hg hp h605 hs.1 hs.2.1 h606 b2 h607 b3 b3' (List.getElem?_eq_some_iff.mp g1).1 hcc.1 hcc.2 g3 g2 (by omega)) (fun r n' M' q => ⟨q.1, q.2.1, done _ q.2.2⟩)
  | some cy =>
    obtain ⟨c, y⟩ := cy
    obtain ⟨r1, r2, r3⟩ := rd_some hr
    have hcc := hs.2.2 _ _ r1
    have hlt := (List.getElem?_eq_some_iff.mp r1).1
    have hy2 : y < 256 := by
      rcases r3 with ⟨_, q⟩ | ⟨_, q⟩
      · exact (hs.2.2 _ _ q).2
      · omega
    have hif := rc_isFit (l := l) (b := b) (x := x) (D := D) (dA := dA) (M := fm_put1 (fm_put1 M 607 gi (nI (N 3 - 1))) 586 50 (nI 0)) (c := c) (y := y) hn hR hg hE okE (caE _) trivial (by show va_up N 3 (N 3 - 1) 5 < 1000; rw [N5]; exact b5) (by omega) hy2
    rw [show (ag_takes c (va_up N 3 (N 3 - 1), s0, p) && ag_bnd c y (va_up N 3 (N 3 - 1), s0, p)) = (ag_takes c (N, s0, p) && ag_bnd c y (N, s0, p)) by rw [bnd_any (N := N) N5]; rfl] at hif
    have hrd : ag_step sc tbl he (N, s0, p) = if ag_takes c (N, s0, p) && ag_bnd c y (N, s0, p) then ((ag_do c y tbl he (va_up (va_up N 3 (N 3 - 1)) 2 (N 2 + ag_sz c)) (s0.take (s0.length - ag_tk c)) p (ag_low c (N, s0, p)) (ag_upp (N, s0, p))).1, (ag_do c y tbl he (va_up (va_up N 3 (N 3 - 1)) 2 (N 2 + ag_sz c)) (s0.take (s0.length - ag_tk c)) p (ag_low c (N, s0, p)) (ag_upp (N, s0, p))).2.1, ag_can (ag_do c y tbl he (va_up (va_up N 3 (N 3 - 1)) 2 (N 2 + ag_sz c)) (s0.take (s0.length - ag_tk c)) p (ag_low c (N, s0, p)) (ag_upp (N, s0, p))).2.2) else (5, 0, va_up N 3 (N 3 - 1), s0, p) := by
      unfold ag_step
      show (match ag_read sc (N 2) with | none => _ | some (c, y) => _) = _
      rw [hr]
    cases hfit : (ag_takes c (N, s0, p) && ag_bnd c y (N, s0, p)) with
    | false =>
      rw [hfit] at hif hrd
      have eS : (ag_step sc tbl he (N, s0, p)) = (5, 0, va_up N 3 (N 3 - 1), s0, p) := hrd
      rw [eS]
      have done : ∀ M', fr_K (fm_put1 (fm_put1 M 607 gi (nI (N 3 - 1))) 586 50 (nI 0)) M' → rW_m gi M (N, s0, p) (5, 0, va_up N 3 (N 3 - 1), s0, p) M' := by
        intro M' e
        exact ⟨⟨g, hrG_K e hE⟩, fun _ => frW_tr fE (frW_K e), fun e => no3 e rfl⟩
      rcases r3 with ⟨z, q⟩ | ⟨z, q⟩
      · have hyy := hs.2.2 _ _ q
        exact fm_post (wk_4w hn hR hg hp h605 hs.1 hs.2.1 h606 b2 h607 b3 b3' hlt hcc.1 hcc.2 z r2 (List.getElem?_eq_some_iff.mp q).1 hyy.1 hyy.2 hif) (fun r n' M' q => ⟨q.1, q.2.1, done _ q.2.2⟩)
      · subst q
        exact fm_post (wk_4n hn hR hg hp h605 hs.1 hs.2.1 h606 b2 h607 b3 b3' hlt hcc.1 hcc.2 (by omega) r2 hif) (fun r n' M' q => ⟨q.1, q.2.1, done _ q.2.2⟩)
    | true =>
      rw [hfit] at hif hrd
      rw [if_pos rfl] at hrd
      have ht : ag_takes c (N, s0, p) = true := (Bool.and_eq_true _ _ |>.mp hfit).1
      have hb : ag_bnd c y (N, s0, p) = true := (Bool.and_eq_true _ _ |>.mp hfit).2
      generalize hbh : N 2 + ag_sz c = bh at hrd
      have N25 : va_up (va_up N 3 (N 3 - 1)) 2 bh 5 = N 5 := (fm_upN (by decide)).trans N5
      have hdo : ∀ Mk, fr_K (fm_put1 (fm_put1 M 607 gi (nI (N 3 - 1))) 586 50 (nI 0)) Mk → _ := fun Mk e => rc_do_m (l := l) (b := b) (x := x) (D := D) (dA := dA) (n := n) (gi := gi) (he := he) (c := c) (y := y) (N := va_up (va_up N 3 (N 3 - 1)) 2 bh) (s0 := s0) (p := p) (g := g) (tbl := tbl) (M := fm_put1 Mk 606 gi (nI bh)) hn (show fm_RP Mk from frK_RP (M := fm_put1 (fm_put1 M 607 gi (nI (N 3 - 1))) 586 50 (nI 0)) e hR) hh hg9 (by rw [show va_up (va_up N 3 (N 3 - 1)) 2 bh 0 = N 0 from (fm_upN (by decide)).trans (fm_upN (by decide))]; exact hN0) (hrG_num (k := 2) (by decide) (by decide) (hrG_K e hE)) ok (caE _) (fun k hk => (p1_other (by decide)).trans ((e.2 589 _ (by decide) (by decide) (fun q => absurd q.1 (by decide))).trans ((p1_other (by decide)).trans ((p1_other (by decide)).trans (htb k hk))))) (by rw [show va_up (va_up N 3 (N 3 - 1)) 2 bh 3 = N 3 - 1 from (fm_upN (by decide)).trans fm_upS]; omega) (by rw [N25]; exact b5) (by rw [show va_up (va_up N 3 (N 3 - 1)) 2 bh 7 = N 7 from (fm_upN (by decide)).trans (fm_upN (by decide))]; exact b7) (by omega) hy2 ht ((bnd_any (N := N) N25).trans hb)
      have okd := ok_do (he := he) (tbl := tbl) (N := va_up (va_up N 3 (N 3 - 1)) 2 bh) ok (by omega) ht hb
      have hle := do_le (y := y) (he := he) (tbl := tbl) (N := va_up (va_up N 3 (N 3 - 1)) 2 bh) (s := s0.take (s0.length - ag_tk c)) (p := p) (lo := ag_low c (N, s0, p)) (up := ag_upp (N, s0, p)) (show c < 20 by omega)
      have okd : ag_ok (ag_do c y tbl he (va_up (va_up N 3 (N 3 - 1)) 2 bh) (s0.take (s0.length - ag_tk c)) p (ag_low c (N, s0, p)) (ag_upp (N, s0, p))).2.2 := okd
      have hdo : ∀ Mk, fr_K (fm_put1 (fm_put1 M 607 gi (nI (N 3 - 1))) 586 50 (nI 0)) Mk → Met l y_Mo_perform (Cond.code y_Mo_perform b_Mo_perform 5 none :: fm_T0) ({ frames := 6, cells := 0, slots := 0, locals := 170 }) (fm_Pc fm_lay fm_nf fm_fk fm_cl b x D dA (fm_tys dA) (fm_EX b x) false [.ref 586, .int (nI gi), .int (nI he), .int (nI c), .int (nI y)] n (fm_put1 Mk 606 gi (nI bh))) (fm_Qc fm_lay fm_nf fm_fk fm_cl b x D dA (fun r n' M' => r = none ∧ n' = n ∧ rQ_m gi (fm_put1 Mk 606 gi (nI bh)) (va_up (va_up N 3 (N 3 - 1)) 2 bh, s0, p) (ag_do c y tbl he (va_up (va_up N 3 (N 3 - 1)) 2 bh) (s0.take (s0.length - ag_tk c)) p (ag_low c (N, s0, p)) (ag_upp (N, s0, p))) M')) 0 0 (fm_A b) := hdo
      generalize hdd : ag_do c y tbl he (va_up (va_up N 3 (N 3 - 1)) 2 bh) (s0.take (s0.length - ag_tk c)) p (ag_low c (N, s0, p)) (ag_upp (N, s0, p)) = dd at hrd hdo okd hle
      rw [hrd]
      have done : ∀ Mk M', fr_K (fm_put1 (fm_put1 M 607 gi (nI (N 3 - 1))) 586 50 (nI 0)) Mk → rQ_m gi (fm_put1 Mk 606 gi (nI bh)) (va_up (va_up N 3 (N 3 - 1)) 2 bh, s0, p) dd M' → rW_m gi M (N, s0, p) (dd.1, dd.2.1, ag_can dd.2.2) M' := by
        intro Mk M' e q
        obtain ⟨⟨g', q1⟩, q2, q3⟩ := q
        have fP : fr_W gi (fm_put1 M 586 50 (nI 0)) (fm_put1 Mk 606 gi (nI bh)) := frW_p1 (Or.inl ⟨by decide, by decide, rfl⟩) (frW_tr fE (frW_K e))
        refine ⟨hrG_can okd q1, fun k => ?_, fun k => ?_⟩
        · have q2 := q2 k
          rw [show (va_up (va_up N 3 (N 3 - 1)) 2 bh, s0, p).1 5 = N 5 from N25] at q2
          exact frW_tr (frW_Em fP) q2
        · obtain ⟨M1, m1, m2, ⟨g2, m3⟩, m4⟩ := q3 k
          have e12 := hle.2 k
          subst e12
          have hbh2 : bh = N 2 + 1 := hbh.symm
          refine ⟨frW2_tr (M1 := m_arrive M1 (gi + 4) (nI 0) (-1)) (frW2_put (frW2_put (frW2_put (frW2_tr (frW2_W fP) (frW2_R m1))))) (frW2_W m2), ?_, m4⟩
          rw [hbh2] at m3
          exact hrG_can (ok_kid (ok_take (N := N) (s0.length - 1) ok) (by
            have l2 := (take_len ht).2.1
            have l1 := (take_len ht).1
            have l1 : 1 ≤ s0.length := l1
            have l6 : s0.length ≤ 6 := ok.1
            show (s0.take (s0.length - 1)).length < 6
            rw [List.length_take]
            omega)) m3
      have e1 : (if ((dd.1, dd.2.1, ag_can dd.2.2) : Nat × Int32 × ag_T).1 = 5 then 0 else 1 : Nat) = 1 := if_neg (fun q => by
        have q : dd.1 = 5 := q
        omega)
      rw [e1]
      rcases r3 with ⟨z, q⟩ | ⟨z, q⟩
      · have hyy := hs.2.2 _ _ q
        have hbh2 : bh = N 2 + 2 := by omega
        subst hbh2
        refine fm_post (wk_5w (PR := fun M' => ∃ Mk, fr_K (fm_put1 (fm_put1 M 607 gi (nI (N 3 - 1))) 586 50 (nI 0)) Mk ∧ rQ_m gi (fm_put1 Mk 606 gi (nI (N 2 + 2))) (va_up (va_up N 3 (N 3 - 1)) 2 (N 2 + 2), s0, p) dd M') hn hR hg hp h605 hs.1 hs.2.1 h606 b2 h607 b3 b3' hlt hcc.1 hcc.2 z r2 (List.getElem?_eq_some_iff.mp q).1 hyy.1 hyy.2 hif (fun Mk e => fm_post (hdo Mk e) (fun r n' M' q => ⟨q.1, q.2.1, Mk, e, q.2.2⟩))) (fun r n' M' q => ⟨q.1, q.2.1, ?_⟩)
        obtain ⟨Mk, e, q5⟩ := q.2.2
        exact done Mk M' e q5
      · have hbh2 : bh = N 2 + 1 := by omega
        subst hbh2
        subst q
        refine fm_post (wk_5n (PR := fun M' => ∃ Mk, fr_K (fm_put1 (fm_put1 M 607 gi (nI (N 3 - 1))) 586 50 (nI 0)) Mk ∧ rQ_m gi (fm_put1 Mk 606 gi (nI (N 2 + 1))) (va_up (va_up N 3 (N 3 - 1)) 2 (N 2 + 1), s0, p) dd M') hn hR hg hp h605 hs.1 hs.2.1 h606 b2 h607 b3 b3' hlt hcc.1 hcc.2 (by omega) r2 hif (fun Mk e => fm_post (hdo Mk e) (fun r n' M' q => ⟨q.1, q.2.1, Mk, e, q.2.2⟩))) (fun r n' M' q => ⟨q.1, q.2.1, ?_⟩)
        obtain ⟨Mk, e, q5⟩ := q.2.2
        exact done Mk M' e q5
theorem rc_work_f {l : Launch} {b : Nat} {x : Nat → Nat} {D : va_G} {dA : Nat → ClassId} {gi he n : Nat} {N : Nat → Nat} {s0 : List bf_V} {p : List (bf_V × bf_V)} {g : Nat → Nat} {sc : List Nat} {tbl : Nat → Int32} {M : fm_M} (hn : 629 ≤ n) (hR : fm_RP M) (hfh : M.1 586 46 = nI he) (hh : he < 4) (hg9 : gi = 96 ∨ gi = 97) (hN0 : 4 ≤ N 0 ↔ gi = 97) (hfc : M.1 586 48 = nI (N 5)) (h : hr_G M gi F_f (N, s0, p) g) (ok : ag_ok (N, s0, p)) (hca : ag_can (N, s0, p) = (N, s0, p)) (hp : N 1 < 4) (hs : hs_R M (N 1) sc) (htb : ∀ k, k < 8 → M.1 589 (8 * he + k) = tbl k) (b2 : N 2 < 900) (b3 : 1 ≤ N 3) (b3' : N 3 < 1000) (b5 : N 5 < 1000) (b7 : N 7 ≤ 1) : Met l y_Mo_work (Cond.code y_Mo_work b_Mo_work 9 (some .boolean) :: fm_T0) ({ frames := 7, cells := 0, slots := 0, locals := 210 }) (fm_Pc fm_lay fm_nf fm_fk fm_cl b x D dA (fm_tys dA) (fm_EX b x) false [.ref 586, .int (nI gi), .int (-1)] n M) (fm_Qc fm_lay fm_nf fm_fk fm_cl b x D dA (fun r n' M' => r = some (.int (nI (if (ag_step sc tbl he (N, s0, p)).1 = 5 then 0 else 1))) ∧ n' = n ∧ rW_f gi M (N, s0, p) (ag_step sc tbl he (N, s0, p)) M')) 0 0 (fm_A b) := by
  have hg : gi < 98 := by omega
  have h605 : M.1 605 gi = nI (N 1) := h.1 1 (by decide) (by decide) ⟨by decide, by decide⟩
  have h606 : M.1 606 gi = nI (N 2) := h.1 2 (by decide) (by decide) ⟨by decide, by decide⟩
  have h607 : M.1 607 gi = nI (N 3) := h.1 3 (by decide) (by decide) ⟨by decide, by decide⟩
  have hE : hr_G (fm_put1 (fm_put1 M 607 gi (nI (N 3 - 1))) 586 50 (nI 0)) gi F_f (va_up N 3 (N 3 - 1), s0, p) g := hrG_o1 (Or.inl (by decide)) (hrG_num (k := 3) (by decide) (by decide) h)
  have fE : fr_W gi (fm_put1 M 586 50 (nI 0)) (fm_put1 (fm_put1 M 607 gi (nI (N 3 - 1))) 586 50 (nI 0)) := frW_put (frW_p1 (Or.inl ⟨by decide, by decide, rfl⟩) (frW_rf gi M))
  have okE : ag_ok (va_up N 3 (N 3 - 1), s0, p) := ok
  have caE : ∀ N', ag_can (N', s0, p) = (N', s0, p) := fun N' => by
    have e : (ag_can (N, s0, p)).2 = (s0, p) := by rw [hca]
    show (N', (ag_can (N, s0, p)).2) = _
    rw [e]
  have N5 : va_up N 3 (N 3 - 1) 5 = N 5 := fm_upN (by decide)
  cases hr : ag_read sc (N 2) with
  | none =>
    have eS : (ag_step sc tbl he (N, s0, p)) = (5, 0, va_up N 3 (N 3 - 1), s0, p) := by
      unfold ag_step
      show (match ag_read sc (N 2) with | none => _ | some (c, y) => _) = _
      rw [hr]
    rw [eS]
    have done : ∀ M', M' = fm_put1 (fm_put1 M 607 gi (nI (N 3 - 1))) 586 50 (nI 0) → rW_f gi M (N, s0, p) (5, 0, va_up N 3 (N 3 - 1), s0, p) M' := by
      intro M' e
      rw [e]
      exact ⟨⟨g, hE⟩, fun _ => fE, fun e => no3 e rfl⟩
    rcases rd_none hr with g1 | ⟨c, g1, g2⟩ | ⟨c, g1, g2, g3, g4⟩
    · exact fm_post (wk_1 hn hR hg hp h605 hs.1 hs.2.1 h606 b2 h607 b3 b3' (List.getElem?_eq_none_iff.mp g1)) (fun r n' M' q => ⟨q.1, q.2.1, done _ q.2.2⟩)
    · have hcc := hs.2.2 _ _ g1
      exact fm_post (wk_2 hn hR hg hp h605 hs.1 hs.2.1 h606 b2 h607 b3 b3' (List.getElem?_eq_some_iff.mp g1).1 hcc.1 hcc.2 (sz_big g2) g2) (fun r n' M' q => ⟨q.1, q.2.1, done _ q.2.2⟩)
    · have hcc := hs.2.2 _ _ g1
      have g5 := List.getElem?_eq_none_iff.mp g4
      exact fm_post (wk_3 hn hR hg hp h605 hs.1 hs.2.1 h606 b2 h607 b3 b3' (List.getElem?_eq_some_iff.mp g1).1 hcc.1 hcc.2 g3 g2 (by omega)) (fun r n' M' q => ⟨q.1, q.2.1, done _ q.2.2⟩)
  | some cy =>
    obtain ⟨c, y⟩ := cy
    obtain ⟨r1, r2, r3⟩ := rd_some hr
    have hcc := hs.2.2 _ _ r1
    have hlt := (List.getElem?_eq_some_iff.mp r1).1
    have hy2 : y < 256 := by
      rcases r3 with ⟨_, q⟩ | ⟨_, q⟩
      · exact (hs.2.2 _ _ q).2
      · omega
    have hif := rc_isFit (l := l) (b := b) (x := x) (D := D) (dA := dA) (M := fm_put1 (fm_put1 M 607 gi (nI (N 3 - 1))) 586 50 (nI 0)) (c := c) (y := y) hn hR hg hE okE (caE _) ⟨by decide, by decide⟩ (by show va_up N 3 (N 3 - 1) 5 < 1000; rw [N5]; exact b5) (by omega) hy2
    rw [show (ag_takes c (va_up N 3 (N 3 - 1), s0, p) && ag_bnd c y (va_up N 3 (N 3 - 1), s0, p)) = (ag_takes c (N, s0, p) && ag_bnd c y (N, s0, p)) by rw [bnd_any (N := N) N5]; rfl] at hif
    have hrd : ag_step sc tbl he (N, s0, p) = if ag_takes c (N, s0, p) && ag_bnd c y (N, s0, p) then ((ag_do c y tbl he (va_up (va_up N 3 (N 3 - 1)) 2 (N 2 + ag_sz c)) (s0.take (s0.length - ag_tk c)) p (ag_low c (N, s0, p)) (ag_upp (N, s0, p))).1, (ag_do c y tbl he (va_up (va_up N 3 (N 3 - 1)) 2 (N 2 + ag_sz c)) (s0.take (s0.length - ag_tk c)) p (ag_low c (N, s0, p)) (ag_upp (N, s0, p))).2.1, ag_can (ag_do c y tbl he (va_up (va_up N 3 (N 3 - 1)) 2 (N 2 + ag_sz c)) (s0.take (s0.length - ag_tk c)) p (ag_low c (N, s0, p)) (ag_upp (N, s0, p))).2.2) else (5, 0, va_up N 3 (N 3 - 1), s0, p) := by
      unfold ag_step
      show (match ag_read sc (N 2) with | none => _ | some (c, y) => _) = _
      rw [hr]
    cases hfit : (ag_takes c (N, s0, p) && ag_bnd c y (N, s0, p)) with
    | false =>
      rw [hfit] at hif hrd
      have eS : (ag_step sc tbl he (N, s0, p)) = (5, 0, va_up N 3 (N 3 - 1), s0, p) := hrd
      rw [eS]
      have done : ∀ M', fr_K (fm_put1 (fm_put1 M 607 gi (nI (N 3 - 1))) 586 50 (nI 0)) M' → rW_f gi M (N, s0, p) (5, 0, va_up N 3 (N 3 - 1), s0, p) M' := by
        intro M' e
        exact ⟨⟨g, hrG_K e hE⟩, fun _ => frW_tr fE (frW_K e), fun e => no3 e rfl⟩
      rcases r3 with ⟨z, q⟩ | ⟨z, q⟩
      · have hyy := hs.2.2 _ _ q
        exact fm_post (wk_4w hn hR hg hp h605 hs.1 hs.2.1 h606 b2 h607 b3 b3' hlt hcc.1 hcc.2 z r2 (List.getElem?_eq_some_iff.mp q).1 hyy.1 hyy.2 hif) (fun r n' M' q => ⟨q.1, q.2.1, done _ q.2.2⟩)
      · subst q
        exact fm_post (wk_4n hn hR hg hp h605 hs.1 hs.2.1 h606 b2 h607 b3 b3' hlt hcc.1 hcc.2 (by omega) r2 hif) (fun r n' M' q => ⟨q.1, q.2.1, done _ q.2.2⟩)
    | true =>
      rw [hfit] at hif hrd
      rw [if_pos rfl] at hrd
      have ht : ag_takes c (N, s0, p) = true := (Bool.and_eq_true _ _ |>.mp hfit).1
      have hb : ag_bnd c y (N, s0, p) = true := (Bool.and_eq_true _ _ |>.mp hfit).2
      generalize hbh : N 2 + ag_sz c = bh at hrd
      have N25 : va_up (va_up N 3 (N 3 - 1)) 2 bh 5 = N 5 := (fm_upN (by decide)).trans N5
      have hdo : ∀ Mk, fr_K (fm_put1 (fm_put1 M 607 gi (nI (N 3 - 1))) 586 50 (nI 0)) Mk → _ := fun Mk e => rc_do_f (l := l) (b := b) (x := x) (D := D) (dA := dA) (n := n) (gi := gi) (he := he) (c := c) (y := y) (N := va_up (va_up N 3 (N 3 - 1)) 2 bh) (s0 := s0) (p := p) (g := g) (tbl := tbl) (M := fm_put1 Mk 606 gi (nI bh)) hn (show fm_RP Mk from frK_RP (M := fm_put1 (fm_put1 M 607 gi (nI (N 3 - 1))) 586 50 (nI 0)) e hR) ((p1_other (by decide)).trans ((e.2 586 46 (by decide) (by decide) (by decide)).trans ((p1_at (by decide)).trans ((p1_other (by decide)).trans hfh)))) hh hg9 (by rw [show va_up (va_up N 3 (N 3 - 1)) 2 bh 0 = N 0 from (fm_upN (by decide)).trans (fm_upN (by decide))]; exact hN0) ((p1_other (by decide)).trans ((e.2 586 48 (by decide) (by decide) (by decide)).trans ((p1_at (by decide)).trans ((p1_other (by decide)).trans (hfc.trans (congrArg nI N25.symm)))))) (hrG_num (k := 2) (by decide) (by decide) (hrG_K e hE)) ok (caE _) (fun k hk => (p1_other (by decide)).trans ((e.2 589 _ (by decide) (by decide) (fun q => absurd q.1 (by decide))).trans ((p1_other (by decide)).trans ((p1_other (by decide)).trans (htb k hk))))) (by rw [show va_up (va_up N 3 (N 3 - 1)) 2 bh 3 = N 3 - 1 from (fm_upN (by decide)).trans fm_upS]; omega) (by rw [N25]; exact b5) (by rw [show va_up (va_up N 3 (N 3 - 1)) 2 bh 7 = N 7 from (fm_upN (by decide)).trans (fm_upN (by decide))]; exact b7) (by omega) hy2 ht ((bnd_any (N := N) N25).trans hb)
      have okd := ok_do (he := he) (tbl := tbl) (N := va_up (va_up N 3 (N 3 - 1)) 2 bh) ok (by omega) ht hb
      have hle := do_le (y := y) (he := he) (tbl := tbl) (N := va_up (va_up N 3 (N 3 - 1)) 2 bh) (s := s0.take (s0.length - ag_tk c)) (p := p) (lo := ag_low c (N, s0, p)) (up := ag_upp (N, s0, p)) (show c < 20 by omega)
      have okd : ag_ok (ag_do c y tbl he (va_up (va_up N 3 (N 3 - 1)) 2 bh) (s0.take (s0.length - ag_tk c)) p (ag_low c (N, s0, p)) (ag_upp (N, s0, p))).2.2 := okd
      have hdo : ∀ Mk, fr_K (fm_put1 (fm_put1 M 607 gi (nI (N 3 - 1))) 586 50 (nI 0)) Mk → Met l y_Mo_perform (Cond.code y_Mo_perform b_Mo_perform 5 none :: fm_T0) ({ frames := 6, cells := 0, slots := 0, locals := 170 }) (fm_Pc fm_lay fm_nf fm_fk fm_cl b x D dA (fm_tys dA) (fm_EX b x) false [.ref 586, .int (nI gi), .int (-1), .int (nI c), .int (nI y)] n (fm_put1 Mk 606 gi (nI bh))) (fm_Qc fm_lay fm_nf fm_fk fm_cl b x D dA (fun r n' M' => r = none ∧ n' = n ∧ rQ_f gi (fm_put1 Mk 606 gi (nI bh)) (va_up (va_up N 3 (N 3 - 1)) 2 bh, s0, p) (ag_do c y tbl he (va_up (va_up N 3 (N 3 - 1)) 2 bh) (s0.take (s0.length - ag_tk c)) p (ag_low c (N, s0, p)) (ag_upp (N, s0, p))) M')) 0 0 (fm_A b) := hdo
      generalize hdd : ag_do c y tbl he (va_up (va_up N 3 (N 3 - 1)) 2 bh) (s0.take (s0.length - ag_tk c)) p (ag_low c (N, s0, p)) (ag_upp (N, s0, p)) = dd at hrd hdo okd hle
      rw [hrd]
      have done : ∀ Mk M', fr_K (fm_put1 (fm_put1 M 607 gi (nI (N 3 - 1))) 586 50 (nI 0)) Mk → rQ_f gi (fm_put1 Mk 606 gi (nI bh)) (va_up (va_up N 3 (N 3 - 1)) 2 bh, s0, p) dd M' → rW_f gi M (N, s0, p) (dd.1, dd.2.1, ag_can dd.2.2) M' := by
        intro Mk M' e q
        obtain ⟨⟨g', q1⟩, q2, q3⟩ := q
        have fP : fr_W gi (fm_put1 M 586 50 (nI 0)) (fm_put1 Mk 606 gi (nI bh)) := frW_p1 (Or.inl ⟨by decide, by decide, rfl⟩) (frW_tr fE (frW_K e))
        refine ⟨hrG_can okd q1, fun k => ?_, fun k => ?_⟩
        · have q2 := q2 k
          rw [show (va_up (va_up N 3 (N 3 - 1)) 2 bh, s0, p).1 5 = N 5 from N25] at q2
          exact frW_tr (frW_Ef fP) q2
        · obtain ⟨M1, m1, m2, ⟨g2, m3⟩, m4⟩ := q3 k
          have e12 := hle.2 k
          subst e12
          have hbh2 : bh = N 2 + 1 := hbh.symm
          refine ⟨frW2_tr (M1 := fm_put1 M1 586 47 (nI 1)) (frW2_put (frW2_tr (frW2_W fP) (frW2_R m1))) (frW2_W m2), ?_, m4⟩
          rw [hbh2] at m3
          exact hrG_can (ok_kid (ok_take (N := N) (s0.length - 1) ok) (by
            have l2 := (take_len ht).2.1
            have l1 := (take_len ht).1
            have l1 : 1 ≤ s0.length := l1
            have l6 : s0.length ≤ 6 := ok.1
            show (s0.take (s0.length - 1)).length < 6
            rw [List.length_take]
            omega)) m3
      have e1 : (if ((dd.1, dd.2.1, ag_can dd.2.2) : Nat × Int32 × ag_T).1 = 5 then 0 else 1 : Nat) = 1 := if_neg (fun q => by
        have q : dd.1 = 5 := q
        omega)
      rw [e1]
      rcases r3 with ⟨z, q⟩ | ⟨z, q⟩
      · have hyy := hs.2.2 _ _ q
        have hbh2 : bh = N 2 + 2 := by omega
        subst hbh2
        refine fm_post (wk_5w (PR := fun M' => ∃ Mk, fr_K (fm_put1 (fm_put1 M 607 gi (nI (N 3 - 1))) 586 50 (nI 0)) Mk ∧ rQ_f gi (fm_put1 Mk 606 gi (nI (N 2 + 2))) (va_up (va_up N 3 (N 3 - 1)) 2 (N 2 + 2), s0, p) dd M') hn hR hg hp h605 hs.1 hs.2.1 h606 b2 h607 b3 b3' hlt hcc.1 hcc.2 z r2 (List.getElem?_eq_some_iff.mp q).1 hyy.1 hyy.2 hif (fun Mk e => fm_post (hdo Mk e) (fun r n' M' q => ⟨q.1, q.2.1, Mk, e, q.2.2⟩))) (fun r n' M' q => ⟨q.1, q.2.1, ?_⟩)
        obtain ⟨Mk, e, q5⟩ := q.2.2
        exact done Mk M' e q5
      · have hbh2 : bh = N 2 + 1 := by omega
        subst hbh2
        subst q
        refine fm_post (wk_5n (PR := fun M' => ∃ Mk, fr_K (fm_put1 (fm_put1 M 607 gi (nI (N 3 - 1))) 586 50 (nI 0)) Mk ∧ rQ_f gi (fm_put1 Mk 606 gi (nI (N 2 + 1))) (va_up (va_up N 3 (N 3 - 1)) 2 (N 2 + 1), s0, p) dd M') hn hR hg hp h605 hs.1 hs.2.1 h606 b2 h607 b3 b3' hlt hcc.1 hcc.2 (by omega) r2 hif (fun Mk e => fm_post (hdo Mk e) (fun r n' M' q => ⟨q.1, q.2.1, Mk, e, q.2.2⟩))) (fun r n' M' q => ⟨q.1, q.2.1, ?_⟩)
        obtain ⟨Mk, e, q5⟩ := q.2.2
        exact done Mk M' e q5
