/-! PERFORM entire, as the agent's own words say -/
theorem ok_push {N N' : Nat → Nat} {s : List bf_V} {p : List (bf_V × bf_V)} {v : bf_V} (h : ag_ok (N, s, p)) (h6 : s.length < 6) (hv : ag_in p.length v) : ag_ok (N', s ++ [v], p) := by
  obtain ⟨h1, h2, h3, h4⟩ := h
  refine ⟨?_, h2, fun w hw => ?_, h4⟩
  · show (s ++ [v]).length ≤ 6
    rw [List.length_append]
    exact h6
  · rcases List.mem_append.mp hw with g | g
    · exact h3 w g
    · rw [List.mem_singleton.mp g]
      exact hv
theorem ok_take {N N' : Nat → Nat} {s : List bf_V} {p : List (bf_V × bf_V)} (d : Nat) (h : ag_ok (N, s, p)) : ag_ok (N', s.take d, p) := by
  obtain ⟨h1, h2, h3, h4⟩ := h
  exact ⟨Nat.le_trans (List.length_take_le' d s) h1, h2, fun w hw => h3 w (List.mem_of_mem_take hw), h4⟩
theorem ok_fn {N : Nat → Nat} {s : List bf_V} {p : List (bf_V × bf_V)} (h : ag_ok (N, s, p)) (k : Nat) : ag_in p.length (ag_fn p k).1 ∧ ag_in p.length (ag_fn p k).2 := by
  by_cases hk : k < p.length
  · exact h.2.2.2 _ (List.mem_of_getElem? (fn_get hk))
  · have e : ag_fn p k = (.inl 0, .inl 0) := by
      unfold ag_fn
      rw [List.getD_eq_getElem?_getD, List.getElem?_eq_none_iff.mpr (by omega)]
      rfl
    rw [e]
    exact ⟨trivial, trivial⟩
theorem ok_set {N N' : Nat → Nat} {s : List bf_V} {p : List (bf_V × bf_V)} {q : bf_V × bf_V} (k : Nat) (h : ag_ok (N, s, p)) (hq : ag_in p.length q.1 ∧ ag_in p.length q.2) : ag_ok (N', s, p.set k q) := by
  obtain ⟨h1, h2, h3, h4⟩ := h
  refine ⟨h1, ?_, fun w hw => ?_, fun r hr => ?_⟩
  · show (p.set k q).length ≤ 8
    rw [List.length_set]
    exact h2
  · show ag_in (p.set k q).length w
    rw [List.length_set]
    exact h3 w hw
  · show ag_in (p.set k q).length r.1 ∧ ag_in (p.set k q).length r.2
    rw [List.length_set]
    rcases List.mem_or_eq_of_mem_set hr with g | g
    · exact h4 r g
    · rw [g]
      exact hq
theorem ok_newp {N N' : Nat → Nat} {s : List bf_V} {p : List (bf_V × bf_V)} {a c : bf_V} (h : ag_ok (N, s, p)) (h6 : s.length < 6) (h8 : p.length < 8) (ha : ag_in p.length a) (hc : ag_in p.length c) : ag_ok (N', s ++ [.inr p.length], p ++ [(a, c)]) := by
  obtain ⟨h1, h2, h3, h4⟩ := h
  have hl : (p ++ [(a, c)]).length = p.length + 1 := by rw [List.length_append]; rfl
  refine ⟨?_, ?_, fun w hw => ?_, fun r hr => ?_⟩
  · show (s ++ [(.inr p.length : bf_V)]).length ≤ 6
    rw [List.length_append]
    exact h6
  · show (p ++ [(a, c)]).length ≤ 8
    rw [hl]
    exact h8
  · show ag_in (p ++ [(a, c)]).length w
    rw [hl]
    rcases List.mem_append.mp hw with g | g
    · exact in_le (Nat.le_succ _) (h3 w g)
    · rw [List.mem_singleton.mp g]
      exact Nat.lt_succ_self _
  · show ag_in (p ++ [(a, c)]).length r.1 ∧ ag_in (p ++ [(a, c)]).length r.2
    rw [hl]
    rcases List.mem_append.mp hr with g | g
    · exact ⟨in_le (Nat.le_succ _) (h4 r g).1, in_le (Nat.le_succ _) (h4 r g).2⟩
    · rw [List.mem_singleton.mp g]
      exact ⟨in_le (Nat.le_succ _) ha, in_le (Nat.le_succ _) hc⟩
theorem bnd_num {c y v : Nat} {N : Nat → Nat} {q : List bf_V × List (bf_V × bf_V)} : ag_bnd c y (va_up N 3 v, q) = ag_bnd c y (N, q) := by
  unfold ag_bnd
  split <;> rfl
theorem take_len {A : ag_T} {c : Nat} (h : ag_takes c A = true) : ag_tk c ≤ A.2.1.length ∧ A.2.1.length - ag_tk c + ag_gv c ≤ 6 ∧ (1 ≤ ag_tk c → ag_kind (ag_low c A) (ag_lo c) = true ∧ ag_kind (ag_upp A) (ag_up c) = true) := by
  simp only [ag_takes, Bool.and_eq_true, decide_eq_true_eq, Bool.or_eq_true, beq_iff_eq] at h
  exact ⟨h.1.1, h.1.2, fun g => h.2.resolve_left (by omega)⟩
theorem kind_int {v : bf_V} (h : ag_kind v 1 = true) : ∃ a, v = .inl a := by
  cases v with
  | inl a => exact ⟨a, rfl⟩
  | inr k => exact absurd h (by simp [ag_kind])
theorem kind_pair {v : bf_V} (h : ag_kind v 2 = true) : ∃ k, v = .inr k := by
  cases v with
  | inl a => exact absurd h (by simp [ag_kind])
  | inr k => exact ⟨k, rfl⟩
theorem lu_in {A : ag_T} {c : Nat} (ok : ag_ok A) (h : ag_takes c A = true) (h1 : 1 ≤ ag_tk c) : ag_in A.2.2.length (ag_low c A) ∧ ag_in A.2.2.length (ag_upp A) := by
  have hl := (take_len h).1
  exact ⟨ok.2.2.1 _ (getD_mem (s := A.2.1) (k := A.2.1.length - ag_tk c) (by omega)).2, ok.2.2.1 _ (getD_mem (s := A.2.1) (k := A.2.1.length - 1) (by omega)).2⟩
theorem ok_do {A : ag_T} {c y he : Nat} {tbl : Nat → Int32} {N : Nat → Nat} (ok : ag_ok A) (hc : c < 20) (ht : ag_takes c A = true) (hb : ag_bnd c y A = true) : ag_ok (ag_do c y tbl he N (A.2.1.take (A.2.1.length - ag_tk c)) A.2.2 (ag_low c A) (ag_upp A)).2.2 := by
  obtain ⟨l1, l2, -⟩ := take_len ht
  have hlu := fun g => lu_in ok ht (c := c) g
  have okt : ag_ok (N, A.2.1.take (A.2.1.length - ag_tk c), A.2.2) := ok_take (N := A.1) _ ok
  have hl : (A.2.1.take (A.2.1.length - ag_tk c)).length = A.2.1.length - ag_tk c := by rw [List.length_take]; omega
  generalize hs : A.2.1.take (A.2.1.length - ag_tk c) = s at okt hl ⊢
  have h6 : ag_gv c = 1 → s.length < 6 := fun g => by omega
  rcases (show c = 0 ∨ c = 1 ∨ c = 2 ∨ c = 3 ∨ c = 4 ∨ c = 5 ∨ c = 6 ∨ c = 7 ∨ c = 8 ∨ c = 9 ∨ c = 10 ∨ c = 11 ∨ c = 12 ∨ c = 13 ∨ c = 14 ∨ c = 15 ∨ c = 16 ∨ c = 17 ∨ c = 18 ∨ c = 19 by omega) with rfl | rfl | rfl | rfl | rfl | rfl | rfl | rfl | rfl | rfl | rfl | rfl | rfl | rfl | rfl | rfl | rfl | rfl | rfl | rfl
  · exact okt
  · exact ok_push okt (h6 rfl) trivial
  · exact ok_push okt (h6 rfl) trivial
  · exact ok_push okt (h6 rfl) trivial
  · exact ok_push okt (h6 rfl) trivial
  · refine ok_push okt (h6 rfl) ?_
    by_cases hk : s.length - 1 - y < s.length
    · exact okt.2.2.1 _ (getD_mem hk).2
    · rw [List.getD_eq_getElem?_getD, List.getElem?_eq_none_iff.mpr (by omega)]
      trivial
  · exact okt
  · exact ok_push okt (h6 rfl) trivial
  · exact okt
  · show ag_ok (if ag_int (ag_upp A) = nI he then (0, 0, N, s, A.2.2) else (2, ag_int (ag_upp A), va_up N 4 (N 4 + 1), s, A.2.2) : Nat × Int32 × ag_T).2.2
    split <;> exact okt
  · exact okt
  · exact okt
  · show ag_ok (if 4 ≤ N 0 ∨ N 7 ≠ 0 ∨ ag_int (ag_upp A) < 1 ∨ nI (N 3) < ag_int (ag_upp A) then (0, 0, N, s ++ [.inl (-1)], A.2.2) else (3, ag_int (ag_upp A), va_up (va_up N 3 (N 3 - (ag_int (ag_upp A)).toInt.toNat)) 7 1, s ++ [.inl 0], A.2.2) : Nat × Int32 × ag_T).2.2
    split <;> exact ok_push okt (h6 rfl) trivial
  · exact okt
  · have h8 : A.2.2.length < 8 := by simpa [ag_bnd] using hb
    exact ok_newp okt (h6 rfl) h8 (hlu (by decide)).1 (hlu (by decide)).2
  · exact ok_push okt (h6 rfl) (ok_fn okt _).1
  · exact ok_push okt (h6 rfl) (ok_fn okt _).2
  · exact ok_set _ okt ⟨(hlu (by decide)).2, (ok_fn okt _).2⟩
  · exact ok_set _ okt ⟨(ok_fn okt _).1, (hlu (by decide)).2⟩
  · exact ok_push okt (h6 rfl) trivial
