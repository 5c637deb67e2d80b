/-! A FIRST CALL on fresh objects: both answer alike -/
theorem wi_to {v lo hi : Int32} {a b : Nat} (e1 : lo.toInt = (a : Int)) (e2 : hi.toInt = (b : Int)) (h : fm_wi v lo hi) : ∃ c, a ≤ c ∧ c ≤ b ∧ v = nI c := by
  obtain ⟨h1, h2⟩ := h
  rw [Int32.lt_iff_toInt_lt, e1] at h1
  rw [Int32.lt_iff_toInt_lt, e2] at h2
  refine ⟨v.toInt.toNat, by omega, by omega, ?_⟩
  have h3 : v = Int32.ofInt v.toInt := (Int32.ofInt_toInt v).symm
  have h4 : v.toInt = (v.toInt.toNat : Int) := by omega
  exact h3.trans ((congrArg Int32.ofInt h4).trans (by first | rfl | exact Int32.ofInt_eq_ofNat | simp [nI]))
theorem mset_oth {M : fm_M} {mm a r k : Nat} {w : Int32} (h1 : r ≠ mm + 1) (h2 : r ≠ mm + 2) : (m_settle M mm a w).1 r k = M.1 r k := by simp [m_settle, fm_put1, va_up, h1, h2]
theorem mset_hi {M : fm_M} {mm a : Nat} {w : Int32} (h : mm + 2 < 586) : fm_hi M (m_settle M mm a w) := hi_p1 (by omega) (hi_p1 (by omega) (hi_rf M))
theorem mbeg_oth {M : fm_M} {o r k : Nat} {v w u : Int32} (h : r ≠ o) : (m_begin M o v w u).1 r k = M.1 r k := by simp [m_begin, fm_put1, va_up, h]
theorem mbeg_hi {M : fm_M} {o : Nat} {v w u : Int32} (h : o < 586) : fm_hi M (m_begin M o v w u) := hi_p1 h (hi_p1 h (hi_p1 h (hi_p1 h (hi_p1 h (hi_p1 h (hi_p1 h (hi_p1 h (hi_p1 h (hi_p1 h (hi_rf M))))))))))
theorem mbeg_0 {M : fm_M} {o : Nat} {v w u : Int32} : (m_begin M o v w u).1 o 0 = v := by simp [m_begin, fm_put1, va_up]
theorem mbeg_1 {M : fm_M} {o : Nat} {v w u : Int32} : (m_begin M o v w u).1 o 1 = w := by simp [m_begin, fm_put1, va_up]
theorem mbeg_2 {M : fm_M} {o : Nat} {v w u : Int32} : (m_begin M o v w u).1 o 2 = nI 0 := by simp [m_begin, fm_put1, va_up]
theorem mbeg_3 {M : fm_M} {o : Nat} {v w u : Int32} : (m_begin M o v w u).1 o 3 = u := by simp [m_begin, fm_put1, va_up]
theorem mbeg_7 {M : fm_M} {o : Nat} {v w u : Int32} : (m_begin M o v w u).1 o 7 = nI 0 := by simp [m_begin, fm_put1, va_up]
theorem mbeg_8 {M : fm_M} {o : Nat} {v w u : Int32} : (m_begin M o v w u).1 o 8 = nI 0 := by simp [m_begin, fm_put1, va_up]
theorem mbeg_9 {M : fm_M} {o : Nat} {v w u : Int32} : (m_begin M o v w u).1 o 9 = nI 0 := by simp [m_begin, fm_put1, va_up]
theorem l22 (M : fm_M) (o mm a : Nat) (t v w u h : Int32) : (m_settle (m_begin (fm_put1 M 8 7 t) o v w u) mm a h).2.2 = M.2.2 := rfl
theorem not18 {v : Int32} (g : ¬ v < nI 2) (hw : ¬ fm_wi v (nI 0) (nI 17)) : ¬ v < nI 18 := fun g3 => hw ⟨fun g4 => g (Int32.lt_trans g4 (by decide)), fun g4 => by
  have h1 := Int32.lt_iff_toInt_lt.mp g3
  have h2 := Int32.lt_iff_toInt_lt.mp g4
  have e7 : (nI 17).toInt = 17 := by decide
  have e8 : (nI 18).toInt = 18 := by decide
  omega⟩
theorem le_of_wi {v lo hi : Int32} (h : fm_wi v lo hi) : ¬ v < lo ∧ v ≤ hi := ⟨h.1, Int32.not_lt.mp h.2⟩
theorem wi_of_le {v lo hi : Int32} (h : ¬ v < lo ∧ v ≤ hi) : fm_wi v lo hi := ⟨h.1, Int32.not_lt.mpr h.2⟩
theorem ge1 {w : Int32} : nI 1 ≤ w ↔ ¬ w ≤ 0 := by
  have e1 : (nI 1).toInt = 1 := by decide
  have e0 : (0 : Int32).toInt = 0 := by decide
  rw [Int32.le_iff_toInt_le, Int32.le_iff_toInt_le, e1, e0]
  omega
theorem wi02 {w : Int32} (h : ¬ (¬ w = 0 ∧ ¬ w = nI 1 ∧ ¬ w = nI 2)) : w = nI 0 ∨ w = nI 1 ∨ w = nI 2 := by
  by_cases h0 : w = 0
  · exact Or.inl h0
  · by_cases h1 : w = nI 1
    · exact Or.inr (Or.inl h1)
    · exact Or.inr (Or.inr (Classical.byContradiction fun h2 => h ⟨h0, h1, h2⟩))
theorem no02 {w : Int32} (h : ¬ w = 0 ∧ ¬ w = nI 1 ∧ ¬ w = nI 2) : ¬ fm_wi w (nI 0) (nI 2) := fun g => by
  obtain ⟨c, h0, h2, rfl⟩ := wi_to (a := 0) (b := 2) (by decide) (by decide) g
  rcases (show c = 0 ∨ c = 1 ∨ c = 2 by omega) with rfl | rfl | rfl
  · exact h.1 rfl
  · exact h.2.1 rfl
  · exact h.2.2 rfl
theorem no_msg {v : Int32} : ¬ (¬ v < 0 ∧ ¬ fm_M2.1 16 1 ≤ v) := fun h => h.2 (by rw [fr_an.2.1]; exact Int32.not_lt.mp h.1)
theorem no_rng {v t : Int32} (ht : t = 0) : ¬ fm_wi v (nI 0) (t - nI 1) := by
  subst ht
  exact fun h => h.2 (Int32.lt_of_lt_of_le (show ((0 : Int32) - nI 1) < 0 by decide) (Int32.not_lt.mp h.1))
theorem fr_isM {j v : Nat} (hj : j < 4) (hv : v < 3) : fm_isM (91 + 124 * j + 41 * v) := ⟨j, v, hj, hv, rfl⟩
theorem fr_U {j : Nat} (hj : j < 4) : ¬ fm_M2.1 (90 + 124 * j) 1 = 0 := by rw [(fr_up j hj).1]; decide
theorem FR_U {M : fm_M} (g : fm_FR M) {j : Nat} (hj : j < 4) : ¬ M.1 595 j = 0 := by rw [(g.2.2.2.1 j hj).1]; decide
theorem fr_lm {j : Nat} (hj : j < 4) : (fm_lay (91 + 124 * j)).1 = 6 ∧ fm_lay (92 + 124 * j) = (100, 8) ∧ fm_lay (93 + 124 * j) = (100, 8) ∧ fm_lay (95 + 124 * j) = (100, 8) ∧ fm_lay (101 + 124 * j) = (110, 6) ∧ fm_lay (102 + 124 * j) = (110, 8) ∧ fm_lay (103 + 124 * j) = (110, 8) := by
  rcases ap_four hj with rfl | rfl | rfl | rfl <;> exact ⟨rfl, rfl, rfl, rfl, rfl, rfl, rfl⟩
section LWF
variable {p : Program} {l : Launch} {e : Env} {s : State} {m : MethodId} {args : Array Value} {below : List Frame} {meth : Method} {c : Code} {Q : State → Prop}
variable {b : Nat} {x : Nat → Nat} {D : va_G} {dA : Nat → ClassId} {z : Nat × Nat} {f : Nat → Int32} {i len : Nat}
theorem f_program (htr : l.stackTraces = false) (hc : fm_Cx p s m args meth c fm_cl b D 7 b_Lw_law "AgentNetLaw" fm_T0 (fm_tys dA)) (hex : fm_EX b x s) (hX : va_X (x 0) len f s s.heap) (hxl : x 0 < s.heap.size) (hxb : x 0 < b) (hlen : len < 2 ^ 31) (hi : i + 5 ≤ len) (hz : z.1 + 0 ≤ room_1.cells ∧ z.2 + 0 ≤ room_1.slots) (kk : ∀ M', fm_G p l e room_1 s m args below meth c Q fm_lay fm_nf fm_fk fm_cl b x D dA 7 1091 [(4, .int (nI i)), (3, .ref 629), (2, .ref 586), (1, .ref 8), (0, .ref 0)] [] 630 M' z) : fm_G p l e room_1 s m args below meth c Q fm_lay fm_nf fm_fk fm_cl b x D dA 7 128 [(4, .int (nI i)), (3, .ref 629), (2, .ref 586), (1, .ref 8), (0, .ref 0)] [] 630 fm_M2 z := by
  by_cases hv : fm_in 4 (f (i + 1))
  · by_cases hw : fm_wi (f (i + 4)) (nI 1) (nI 8)
    · obtain ⟨j, hj, e1⟩ := in4_to hv
      obtain ⟨k, hk1, hk8, e4⟩ := wi_to (a := 1) (b := 8) (by decide) (by decide) hw
      refine lw_program (B := fun _ => True) hc hex hX hxl hxb hlen hi (t := nI (0 + k)) (PA := fun M' => M' = m_app (82 + 2 * j) (83 + 2 * j) (((f (i + 2)).toInt64 <<< ((nI 32).toInt64 &&& 63)) ||| ((f (i + 3)).toInt64 &&& 4294967295)) k 0 fm_M2) (fr1 := 1) (lo1 := 24) (by decide) (by decide) hz ?_ ?_ (fun M' _ => kk M')
      · rw [e1, e4]; exact c_program_ok (k0 := 0) (by decide) fr_AP hj hk1 hk8 (by rw [fr_an.1]; decide) (fr_sc j hj).1 (fr_sc j hj).2 (by omega)
      · intro M1 hM1
        have FR : fm_FR M1 := by rw [hM1]; exact FR_hi (mapp_hi _ _ _ (by omega) (by omega) _ _ _) fr_FR
        exact ⟨1, 22, _, by decide, by decide, by rw [e1, e4]; exact r_program_ok (k0 := 0) (by decide) FR.1 hj hk1 hk8 (by rw [FR.2.1]; decide) (FR.2.2.2.1 j hj).2.2 (by omega), fun _ _ => trivial⟩
    · by_cases g : f (i + 4) < nI 1
      · refine lw_program (B := fun _ => True) hc hex hX hxl hxb hlen hi (t := -1) (PA := fun M' => M' = fm_M2) (fr1 := 1) (lo1 := 24) (by decide) (by decide) hz ?_ ?_ (fun M' _ => kk M')
        · exact c_program_bad2 (by decide) fr_AP hv g
        · intro M1 hM1
          have FR : fm_FR M1 := by rw [hM1]; exact fr_FR
          exact ⟨1, 22, _, by decide, by decide, by exact r_program_bad2 (by decide) FR.1 hv hw, fun _ _ => trivial⟩
      · have g2 : nI 8 < f (i + 4) := Classical.byContradiction fun g3 => hw ⟨g, g3⟩
        refine lw_program (B := fun _ => True) hc hex hX hxl hxb hlen hi (t := -1) (PA := fun M' => M' = fm_M2) (fr1 := 1) (lo1 := 24) (by decide) (by decide) hz ?_ ?_ (fun M' _ => kk M')
        · exact c_program_bad3 (by decide) fr_AP hv g g2
        · intro M1 hM1
          have FR : fm_FR M1 := by rw [hM1]; exact fr_FR
          exact ⟨1, 22, _, by decide, by decide, by exact r_program_bad2 (by decide) FR.1 hv hw, fun _ _ => trivial⟩
  · refine lw_program (B := fun _ => True) hc hex hX hxl hxb hlen hi (t := -1) (PA := fun M' => M' = fm_M2) (fr1 := 1) (lo1 := 24) (by decide) (by decide) hz ?_ ?_ (fun M' _ => kk M')
    · exact c_program_bad1 (by decide) fr_AP hv
    · intro M1 hM1
      have FR : fm_FR M1 := by rw [hM1]; exact fr_FR
      exact ⟨1, 22, _, by decide, by decide, by exact r_program_bad1 (by decide) FR.1 hv, fun _ _ => trivial⟩
theorem f_table (htr : l.stackTraces = false) (hc : fm_Cx p s m args meth c fm_cl b D 7 b_Lw_law "AgentNetLaw" fm_T0 (fm_tys dA)) (hex : fm_EX b x s) (hX : va_X (x 0) len f s s.heap) (hxl : x 0 < s.heap.size) (hxb : x 0 < b) (hlen : len < 2 ^ 31) (hi : i + 5 ≤ len) (hz : z.1 + 0 ≤ room_1.cells ∧ z.2 + 0 ≤ room_1.slots) (kk : ∀ M', fm_G p l e room_1 s m args below meth c Q fm_lay fm_nf fm_fk fm_cl b x D dA 7 1091 [(4, .int (nI i)), (3, .ref 629), (2, .ref 586), (1, .ref 8), (0, .ref 0)] [] 630 M' z) : fm_G p l e room_1 s m args below meth c Q fm_lay fm_nf fm_fk fm_cl b x D dA 7 209 [(4, .int (nI i)), (3, .ref 629), (2, .ref 586), (1, .ref 8), (0, .ref 0)] [] 630 fm_M2 z := by
  by_cases hv : fm_in 4 (f (i + 1))
  · by_cases hw : fm_in 8 (f (i + 2))
    · obtain ⟨j, hj, e1⟩ := in4_to hv
      obtain ⟨k, hk, e2⟩ := in8_to hw
      refine lw_table (B := fun _ => True) hc hex hX hxl hxb hlen hi (t := nI 1) (PA := fun M' => M' = fm_put1 fm_M2 (11 + j) k (f (i + 3))) (fr1 := 1) (lo1 := 20) (by decide) (by decide) hz ?_ ?_ (fun M' _ => kk M')
      · rw [e1, e2]; exact c_table_ok (by decide) fr_AP hj hk (by rw [fr_an.1]; decide)
      · intro M1 hM1
        have FR : fm_FR M1 := by rw [hM1]; exact FR_hi (hi_p1 (by omega) (hi_rf _)) fr_FR
        exact ⟨1, 22, _, by decide, by decide, by rw [e1, e2]; exact r_table_ok (by decide) FR.1 hj hk (by rw [FR.2.1]; decide), fun _ _ => trivial⟩
    · by_cases g : f (i + 2) < 0
      · refine lw_table (B := fun _ => True) hc hex hX hxl hxb hlen hi (t := nI 0) (PA := fun M' => M' = fm_M2) (fr1 := 1) (lo1 := 20) (by decide) (by decide) hz ?_ ?_ (fun M' _ => kk M')
        · exact c_table_bad2 (by decide) fr_AP hv g
        · intro M1 hM1
          have FR : fm_FR M1 := by rw [hM1]; exact fr_FR
          exact ⟨1, 22, _, by decide, by decide, by exact r_table_bad2 (by decide) FR.1 hv hw, fun _ _ => trivial⟩
      · have g2 : nI 8 ≤ f (i + 2) := Classical.byContradiction fun g3 => hw ⟨g, g3⟩
        refine lw_table (B := fun _ => True) hc hex hX hxl hxb hlen hi (t := nI 0) (PA := fun M' => M' = fm_M2) (fr1 := 1) (lo1 := 20) (by decide) (by decide) hz ?_ ?_ (fun M' _ => kk M')
        · exact c_table_bad3 (by decide) fr_AP hv g g2
        · intro M1 hM1
          have FR : fm_FR M1 := by rw [hM1]; exact fr_FR
          exact ⟨1, 22, _, by decide, by decide, by exact r_table_bad2 (by decide) FR.1 hv hw, fun _ _ => trivial⟩
  · refine lw_table (B := fun _ => True) hc hex hX hxl hxb hlen hi (t := nI 0) (PA := fun M' => M' = fm_M2) (fr1 := 1) (lo1 := 20) (by decide) (by decide) hz ?_ ?_ (fun M' _ => kk M')
    · exact c_table_bad1 (by decide) fr_AP hv
    · intro M1 hM1
      have FR : fm_FR M1 := by rw [hM1]; exact fr_FR
      exact ⟨1, 22, _, by decide, by decide, by exact r_table_bad1 (by decide) FR.1 hv, fun _ _ => trivial⟩
theorem f_message (htr : l.stackTraces = false) (hc : fm_Cx p s m args meth c fm_cl b D 7 b_Lw_law "AgentNetLaw" fm_T0 (fm_tys dA)) (hex : fm_EX b x s) (hX : va_X (x 0) len f s s.heap) (hxl : x 0 < s.heap.size) (hxb : x 0 < b) (hlen : len < 2 ^ 31) (hi : i + 5 ≤ len) (hz : z.1 + 0 ≤ room_1.cells ∧ z.2 + 0 ≤ room_1.slots) (kk : ∀ M', fm_G p l e room_1 s m args below meth c Q fm_lay fm_nf fm_fk fm_cl b x D dA 7 1091 [(4, .int (nI i)), (3, .ref 629), (2, .ref 586), (1, .ref 8), (0, .ref 0)] [] 630 M' z) : fm_G p l e room_1 s m args below meth c Q fm_lay fm_nf fm_fk fm_cl b x D dA 7 780 [(4, .int (nI i)), (3, .ref 629), (2, .ref 586), (1, .ref 8), (0, .ref 0)] [] 630 fm_M2 z := by
  refine lw_message (B := fun _ => True) hc hex hX hxl hxb hlen hi (t := -1) (PA := fun M' => M' = fm_M2) (fr1 := 1) (lo1 := 21) (by decide) (by decide) hz ?_ ?_ (fun M' _ => kk M')
  · exact c_message_out (by decide) fr_AP no_msg
  · intro M1 hM1
    have FR : fm_FR M1 := by rw [hM1]; exact fr_FR
    exact ⟨1, 22, _, by decide, by decide, by exact r_message_out (by decide) FR.1 (no_rng FR.2.2.1), fun _ _ => trivial⟩
theorem f_slot (htr : l.stackTraces = false) (hc : fm_Cx p s m args meth c fm_cl b D 7 b_Lw_law "AgentNetLaw" fm_T0 (fm_tys dA)) (hex : fm_EX b x s) (hX : va_X (x 0) len f s s.heap) (hxl : x 0 < s.heap.size) (hxb : x 0 < b) (hlen : len < 2 ^ 31) (hi : i + 5 ≤ len) (hz : z.1 + 0 ≤ room_1.cells ∧ z.2 + 0 ≤ room_1.slots) (kk : ∀ M', fm_G p l e room_1 s m args below meth c Q fm_lay fm_nf fm_fk fm_cl b x D dA 7 1091 [(4, .int (nI i)), (3, .ref 629), (2, .ref 586), (1, .ref 8), (0, .ref 0)] [] 630 M' z) : fm_G p l e room_1 s m args below meth c Q fm_lay fm_nf fm_fk fm_cl b x D dA 7 817 [(4, .int (nI i)), (3, .ref 629), (2, .ref 586), (1, .ref 8), (0, .ref 0)] [] 630 fm_M2 z := by
  by_cases hv : fm_in 4 (f (i + 1))
  · by_cases hw : fm_in 8 (f (i + 2))
    · obtain ⟨j, hj, e1⟩ := in4_to hv
      obtain ⟨k, hk, e2⟩ := in8_to hw
      refine lw_slot (B := fun _ => True) hc hex hX hxl hxb hlen hi (t := 0) (PA := fun M' => M' = fm_M2) (fr1 := 1) (lo1 := 20) (by decide) (by decide) hz ?_ ?_ (fun M' _ => kk M')
      · rw [e1, e2]; have h9 := c_slot_ok (l := l) (b := b) (x := x) (D := D) (dA := dA) (n := 630) (by decide) fr_AP hj hk (fr_U hj) (fr_me j hj).1 (by omega) (by omega) (fr_lm hj).1 (fr_me j hj).2.1 (by omega) (by omega) (fr_lm hj).2.1; rw [(fr_slot j hj k hk).1] at h9; exact h9
      · intro M1 hM1
        have FR : fm_FR M1 := by rw [hM1]; exact fr_FR
        exact ⟨1, 22, _, by decide, by decide, by rw [e1, e2]; have h9 := r_slot_ok (l := l) (b := b) (x := x) (D := D) (dA := dA) (n := 630) (by decide) FR.1 hj hk (FR_U FR hj); rw [(FR.2.2.2.2.2.1 j hj k hk).1] at h9; exact h9, fun _ _ => trivial⟩
    · refine lw_slot (B := fun _ => True) hc hex hX hxl hxb hlen hi (t := -1) (PA := fun M' => M' = fm_M2) (fr1 := 1) (lo1 := 20) (by decide) (by decide) hz ?_ ?_ (fun M' _ => kk M')
      · exact c_slot_bad2 (by decide) fr_AP hv hw
      · intro M1 hM1
        have FR : fm_FR M1 := by rw [hM1]; exact fr_FR
        exact ⟨1, 22, _, by decide, by decide, by exact r_slot_bad2 (by decide) FR.1 hv hw, fun _ _ => trivial⟩
  · refine lw_slot (B := fun _ => True) hc hex hX hxl hxb hlen hi (t := -1) (PA := fun M' => M' = fm_M2) (fr1 := 1) (lo1 := 20) (by decide) (by decide) hz ?_ ?_ (fun M' _ => kk M')
    · exact c_slot_bad1 (by decide) fr_AP hv
    · intro M1 hM1
      have FR : fm_FR M1 := by rw [hM1]; exact fr_FR
      exact ⟨1, 22, _, by decide, by decide, by exact r_slot_bad1 (by decide) FR.1 hv, fun _ _ => trivial⟩
theorem f_agent (htr : l.stackTraces = false) (hc : fm_Cx p s m args meth c fm_cl b D 7 b_Lw_law "AgentNetLaw" fm_T0 (fm_tys dA)) (hex : fm_EX b x s) (hX : va_X (x 0) len f s s.heap) (hxl : x 0 < s.heap.size) (hxb : x 0 < b) (hlen : len < 2 ^ 31) (hi : i + 5 ≤ len) (hz : z.1 + 0 ≤ room_1.cells ∧ z.2 + 0 ≤ room_1.slots) (kk : ∀ M', fm_G p l e room_1 s m args below meth c Q fm_lay fm_nf fm_fk fm_cl b x D dA 7 1091 [(4, .int (nI i)), (3, .ref 629), (2, .ref 586), (1, .ref 8), (0, .ref 0)] [] 630 M' z) : fm_G p l e room_1 s m args below meth c Q fm_lay fm_nf fm_fk fm_cl b x D dA 7 854 [(4, .int (nI i)), (3, .ref 629), (2, .ref 586), (1, .ref 8), (0, .ref 0)] [] 630 fm_M2 z := by
  by_cases hv : fm_in 4 (f (i + 1))
  · by_cases hw : fm_in 8 (f (i + 2))
    · obtain ⟨j, hj, e1⟩ := in4_to hv
      obtain ⟨k, hk, e2⟩ := in8_to hw
      refine lw_agent (B := fun _ => True) hc hex hX hxl hxb hlen hi (t := -1) (PA := fun M' => M' = fm_M2) (fr1 := 1) (lo1 := 20) (by decide) (by decide) hz ?_ ?_ (fun M' _ => kk M')
      · rw [e1, e2]; exact c_agent_none (by decide) fr_AP hj hk (fr_U hj) (fr_me j hj).1 (by omega) (by omega) (fr_lm hj).1 (fr_me j hj).2.1 (by omega) (by omega) (fr_lm hj).2.1 (fr_slot j hj k hk).1
      · intro M1 hM1
        have FR : fm_FR M1 := by rw [hM1]; exact fr_FR
        exact ⟨1, 22, _, by decide, by decide, by rw [e1, e2]; exact r_agent_none (by decide) FR.1 hj hk (FR_U FR hj) (FR.2.2.2.2.2.1 j hj k hk).1, fun _ _ => trivial⟩
    · refine lw_agent (B := fun _ => True) hc hex hX hxl hxb hlen hi (t := -1) (PA := fun M' => M' = fm_M2) (fr1 := 1) (lo1 := 20) (by decide) (by decide) hz ?_ ?_ (fun M' _ => kk M')
      · exact c_agent_bad2 (by decide) fr_AP hv hw
      · intro M1 hM1
        have FR : fm_FR M1 := by rw [hM1]; exact fr_FR
        exact ⟨1, 22, _, by decide, by decide, by exact r_agent_bad2 (by decide) FR.1 hv hw, fun _ _ => trivial⟩
  · refine lw_agent (B := fun _ => True) hc hex hX hxl hxb hlen hi (t := -1) (PA := fun M' => M' = fm_M2) (fr1 := 1) (lo1 := 20) (by decide) (by decide) hz ?_ ?_ (fun M' _ => kk M')
    · exact c_agent_bad1 (by decide) fr_AP hv
    · intro M1 hM1
      have FR : fm_FR M1 := by rw [hM1]; exact fr_FR
      exact ⟨1, 22, _, by decide, by decide, by exact r_agent_bad1 (by decide) FR.1 hv, fun _ _ => trivial⟩
theorem f_host (htr : l.stackTraces = false) (hc : fm_Cx p s m args meth c fm_cl b D 7 b_Lw_law "AgentNetLaw" fm_T0 (fm_tys dA)) (hex : fm_EX b x s) (hX : va_X (x 0) len f s s.heap) (hxl : x 0 < s.heap.size) (hxb : x 0 < b) (hlen : len < 2 ^ 31) (hi : i + 5 ≤ len) (hz : z.1 + 0 ≤ room_1.cells ∧ z.2 + 0 ≤ room_1.slots) (kk : ∀ M', fm_G p l e room_1 s m args below meth c Q fm_lay fm_nf fm_fk fm_cl b x D dA 7 1091 [(4, .int (nI i)), (3, .ref 629), (2, .ref 586), (1, .ref 8), (0, .ref 0)] [] 630 M' z) : fm_G p l e room_1 s m args below meth c Q fm_lay fm_nf fm_fk fm_cl b x D dA 7 903 [(4, .int (nI i)), (3, .ref 629), (2, .ref 586), (1, .ref 8), (0, .ref 0)] [] 630 fm_M2 z := by
  by_cases hv : fm_in 4 (f (i + 1))
  · obtain ⟨j, hj, e1⟩ := in4_to hv
    by_cases hw : fm_wi (f (i + 2)) (nI 0) (nI 17)
    · obtain ⟨k, hk0, hk, e2⟩ := wi_to (a := 0) (b := 17) (by decide) (by decide) hw
      rcases (show k = 0 ∨ k = 1 ∨ (2 ≤ k ∧ k < 10) ∨ (10 ≤ k ∧ k < 18) by omega) with rfl | rfl | ⟨h1, h2⟩ | ⟨h1, h2⟩
      · refine lw_host (B := fun _ => True) hc hex hX hxl hxb hlen hi (t := nI 1) (PA := fun M' => M' = fm_M2) (fr1 := 1) (lo1 := 21) (by decide) (by decide) hz ?_ ?_ (fun M' _ => kk M')
        · rw [e1, e2]; exact c_host_ok (by decide) fr_AP hj (t_tell_up1 (by decide) hj (fr_U hj))
        · intro M1 hM1
          have FR : fm_FR M1 := by rw [hM1]; exact fr_FR
          exact ⟨1, 22, _, by decide, by decide, by rw [e1, e2]; exact r_host_up1 (by decide) FR.1 hj (FR_U FR hj), fun _ _ => trivial⟩
      · refine lw_host (B := fun _ => True) hc hex hX hxl hxb hlen hi (t := 0) (PA := fun M' => M' = fm_M2) (fr1 := 1) (lo1 := 21) (by decide) (by decide) hz ?_ ?_ (fun M' _ => kk M')
        · rw [e1, e2]; have h9 := c_host_ok (l := l) (b := b) (x := x) (D := D) (dA := dA) (n := 630) (by decide) fr_AP hj (t_tell_left (by decide) hj); rw [(fr_up j hj).2] at h9; exact h9
        · intro M1 hM1
          have FR : fm_FR M1 := by rw [hM1]; exact fr_FR
          exact ⟨1, 22, _, by decide, by decide, by rw [e1, e2]; have h9 := r_host_left (l := l) (b := b) (x := x) (D := D) (dA := dA) (n := 630) (by decide) FR.1 hj; rw [(FR.2.2.2.1 j hj).2.1] at h9; exact h9, fun _ _ => trivial⟩
      · refine lw_host (B := fun _ => True) hc hex hX hxl hxb hlen hi (t := fm_M2.1 (95 + 124 * j) (k - 2)) (PA := fun M' => M' = fm_M2) (fr1 := 1) (lo1 := 21) (by decide) (by decide) hz ?_ ?_ (fun M' _ => kk M')
        · rw [e1, e2]; exact c_host_ok (by decide) fr_AP hj (t_tell_note (by decide) hj h1 h2 (fr_U hj) (fr_me j hj).1 (by omega) (by omega) (fr_lm hj).1 (fr_me j hj).2.2.2 (by omega) (by omega) (fr_lm hj).2.2.2.1)
        · intro M1 hM1
          have FR : fm_FR M1 := by rw [hM1]; exact fr_FR
          exact ⟨1, 22, _, by decide, by decide, by rw [e1, e2]; have h9 := r_host_note (l := l) (b := b) (x := x) (D := D) (dA := dA) (n := 630) (by decide) FR.1 hj h1 h2 (FR_U FR hj); rw [hM1] at h9 ⊢; rw [show 24 * j + k - 2 = 24 * j + (k - 2) by omega, ← (fr_tell j hj (k - 2) (by omega)).2] at h9; exact h9, fun _ _ => trivial⟩
      · refine lw_host (B := fun _ => True) hc hex hX hxl hxb hlen hi (t := fm_M2.1 (93 + 124 * j) (k - 10)) (PA := fun M' => M' = fm_M2) (fr1 := 1) (lo1 := 21) (by decide) (by decide) hz ?_ ?_ (fun M' _ => kk M')
        · rw [e1, e2]; exact c_host_ok (by decide) fr_AP hj (t_tell_known (by decide) hj h1 h2 (fr_U hj) (fr_me j hj).1 (by omega) (by omega) (fr_lm hj).1 (fr_me j hj).2.2.1 (by omega) (by omega) (fr_lm hj).2.2.1)
        · intro M1 hM1
          have FR : fm_FR M1 := by rw [hM1]; exact fr_FR
          exact ⟨1, 22, _, by decide, by decide, by rw [e1, e2]; have h9 := r_host_known (l := l) (b := b) (x := x) (D := D) (dA := dA) (n := 630) (by decide) FR.1 hj h1 h2 (FR_U FR hj); rw [hM1] at h9 ⊢; rw [show 24 * j + k - 10 = 24 * j + (k - 10) by omega, ← (fr_tell j hj (k - 10) (by omega)).1] at h9; exact h9, fun _ _ => trivial⟩
    · have n0 : ¬ f (i + 2) = 0 := fun g => hw (by rw [g]; exact ⟨by decide, by decide⟩)
      have n1 : ¬ f (i + 2) = nI 1 := fun g => hw (by rw [g]; exact ⟨by decide, by decide⟩)
      by_cases g : f (i + 2) < nI 2
      · refine lw_host (B := fun _ => True) hc hex hX hxl hxb hlen hi (t := -1) (PA := fun M' => M' = fm_M2) (fr1 := 1) (lo1 := 21) (by decide) (by decide) hz ?_ ?_ (fun M' _ => kk M')
        · rw [e1]; exact c_host_ok (by decide) fr_AP hj (t_tell_low (by decide) hj n0 n1 g (fr_U hj))
        · intro M1 hM1
          have FR : fm_FR M1 := by rw [hM1]; exact fr_FR
          exact ⟨1, 22, _, by decide, by decide, by rw [e1]; exact r_host_out (by decide) FR.1 hj hw, fun _ _ => trivial⟩
      · have g2 : ¬ f (i + 2) < nI 18 := not18 g hw
        refine lw_host (B := fun _ => True) hc hex hX hxl hxb hlen hi (t := -1) (PA := fun M' => M' = fm_M2) (fr1 := 1) (lo1 := 21) (by decide) (by decide) hz ?_ ?_ (fun M' _ => kk M')
        · rw [e1]; exact c_host_ok (by decide) fr_AP hj (t_tell_high (by decide) hj n0 n1 g g2 (fr_U hj))
        · intro M1 hM1
          have FR : fm_FR M1 := by rw [hM1]; exact fr_FR
          exact ⟨1, 22, _, by decide, by decide, by rw [e1]; exact r_host_out (by decide) FR.1 hj hw, fun _ _ => trivial⟩
  · refine lw_host (B := fun _ => True) hc hex hX hxl hxb hlen hi (t := -1) (PA := fun M' => M' = fm_M2) (fr1 := 1) (lo1 := 20) (by decide) (by decide) hz ?_ ?_ (fun M' _ => kk M')
    · exact c_host_bad (by decide) fr_AP hv
    · intro M1 hM1
      have FR : fm_FR M1 := by rw [hM1]; exact fr_FR
      exact ⟨1, 22, _, by decide, by decide, by exact r_host_bad (by decide) FR.1 hv, fun _ _ => trivial⟩
theorem f_sealed (htr : l.stackTraces = false) (hc : fm_Cx p s m args meth c fm_cl b D 7 b_Lw_law "AgentNetLaw" fm_T0 (fm_tys dA)) (hex : fm_EX b x s) (hX : va_X (x 0) len f s s.heap) (hxl : x 0 < s.heap.size) (hxb : x 0 < b) (hlen : len < 2 ^ 31) (hi : i + 5 ≤ len) (hz : z.1 + 0 ≤ room_1.cells ∧ z.2 + 0 ≤ room_1.slots) (kk : ∀ M', fm_G p l e room_1 s m args below meth c Q fm_lay fm_nf fm_fk fm_cl b x D dA 7 1091 [(4, .int (nI i)), (3, .ref 629), (2, .ref 586), (1, .ref 8), (0, .ref 0)] [] 630 M' z) : fm_G p l e room_1 s m args below meth c Q fm_lay fm_nf fm_fk fm_cl b x D dA 7 940 [(4, .int (nI i)), (3, .ref 629), (2, .ref 586), (1, .ref 8), (0, .ref 0)] [] 630 fm_M2 z := by
  by_cases hv : fm_in 8 (f (i + 1))
  · obtain ⟨k, hk, e1⟩ := in8_to hv
    refine lw_sealed (B := fun _ => True) hc hex hX hxl hxb hlen hi (t := -1) (PA := fun M' => M' = fm_M2) (fr1 := 1) (lo1 := 30) (by decide) (by decide) hz ?_ ?_ (fun M' _ => kk M')
    · rw [e1]; exact c_sealed0 (mf := fun k => 132 + 124 * k) (by decide) fr_AP hk (fun k hk => ⟨k, 1, hk, by decide, by omega⟩) (fun k hk => (fr_cp k hk).1) (fun k hk => by have h9 := fr_MP k hk 1 (by decide); rw [show 91 + 124 * k + 41 * 1 = 132 + 124 * k by omega] at h9; exact h9) (fun k hk a ha => by show fm_M2.1 (132 + 124 * k + 1) a = 0; rw [show 132 + 124 * k + 1 = 133 + 124 * k by omega]; exact (fr_sl k hk a ha).2.1)
    · intro M1 hM1
      have FR : fm_FR M1 := by rw [hM1]; exact fr_FR
      exact ⟨1, 22, _, by decide, by decide, by rw [e1]; exact r_sealed0 (by decide) FR.1 hk (fun j hj a ha => (FR.2.2.2.2.2.1 j hj a ha).2), fun _ _ => trivial⟩
  · refine lw_sealed (B := fun _ => True) hc hex hX hxl hxb hlen hi (t := -1) (PA := fun M' => M' = fm_M2) (fr1 := 1) (lo1 := 20) (by decide) (by decide) hz ?_ ?_ (fun M' _ => kk M')
    · exact c_sealed_bad (by decide) fr_AP hv
    · intro M1 hM1
      have FR : fm_FR M1 := by rw [hM1]; exact fr_FR
      exact ⟨1, 22, _, by decide, by decide, by exact r_sealed_bad (by decide) FR.1 hv, fun _ _ => trivial⟩
theorem f_outputs (htr : l.stackTraces = false) (hc : fm_Cx p s m args meth c fm_cl b D 7 b_Lw_law "AgentNetLaw" fm_T0 (fm_tys dA)) (hex : fm_EX b x s) (hX : va_X (x 0) len f s s.heap) (hxl : x 0 < s.heap.size) (hxb : x 0 < b) (hlen : len < 2 ^ 31) (hi : i + 5 ≤ len) (hz : z.1 + 0 ≤ room_1.cells ∧ z.2 + 0 ≤ room_1.slots) (kk : ∀ M', fm_G p l e room_1 s m args below meth c Q fm_lay fm_nf fm_fk fm_cl b x D dA 7 1091 [(4, .int (nI i)), (3, .ref 629), (2, .ref 586), (1, .ref 8), (0, .ref 0)] [] 630 M' z) : fm_G p l e room_1 s m args below meth c Q fm_lay fm_nf fm_fk fm_cl b x D dA 7 965 [(4, .int (nI i)), (3, .ref 629), (2, .ref 586), (1, .ref 8), (0, .ref 0)] [] 630 fm_M2 z := by
  by_cases hv : fm_in 8 (f (i + 1))
  · obtain ⟨k, hk, e1⟩ := in8_to hv
    refine lw_outputs (B := fun _ => True) hc hex hX hxl hxb hlen hi (t := 0) (PA := fun M' => M' = fm_M2) (fr1 := 2) (lo1 := 50) (by decide) (by decide) hz ?_ ?_ (fun M' _ => kk M')
    · rw [e1]; have h9 := c_outputs_ok (l := l) (b := b) (x := x) (D := D) (dA := dA) (n := 630) (by decide) fr_AP hk fr_sy.1; rw [(fr_cnt k hk).2, show bitc 0 = 0 by decide] at h9; exact h9
    · intro M1 hM1
      have FR : fm_FR M1 := by rw [hM1]; exact fr_FR
      exact ⟨1, 22, _, by decide, by decide, by rw [e1]; have h9 := r_outputs_ok (l := l) (b := b) (x := x) (D := D) (dA := dA) (n := 630) (by decide) FR.1 hk; rw [(FR.2.2.2.2.1 k hk).1] at h9; exact h9, fun _ _ => trivial⟩
  · refine lw_outputs (B := fun _ => True) hc hex hX hxl hxb hlen hi (t := -1) (PA := fun M' => M' = fm_M2) (fr1 := 1) (lo1 := 20) (by decide) (by decide) hz ?_ ?_ (fun M' _ => kk M')
    · exact c_outputs_bad (by decide) fr_AP hv
    · intro M1 hM1
      have FR : fm_FR M1 := by rw [hM1]; exact fr_FR
      exact ⟨1, 22, _, by decide, by decide, by exact r_outputs_bad (by decide) FR.1 hv, fun _ _ => trivial⟩
theorem f_output (htr : l.stackTraces = false) (hc : fm_Cx p s m args meth c fm_cl b D 7 b_Lw_law "AgentNetLaw" fm_T0 (fm_tys dA)) (hex : fm_EX b x s) (hX : va_X (x 0) len f s s.heap) (hxl : x 0 < s.heap.size) (hxb : x 0 < b) (hlen : len < 2 ^ 31) (hi : i + 5 ≤ len) (hz : z.1 + 0 ≤ room_1.cells ∧ z.2 + 0 ≤ room_1.slots) (kk : ∀ M', fm_G p l e room_1 s m args below meth c Q fm_lay fm_nf fm_fk fm_cl b x D dA 7 1091 [(4, .int (nI i)), (3, .ref 629), (2, .ref 586), (1, .ref 8), (0, .ref 0)] [] 630 M' z) : fm_G p l e room_1 s m args below meth c Q fm_lay fm_nf fm_fk fm_cl b x D dA 7 990 [(4, .int (nI i)), (3, .ref 629), (2, .ref 586), (1, .ref 8), (0, .ref 0)] [] 630 fm_M2 z := by
  by_cases hv : fm_in 8 (f (i + 1))
  · obtain ⟨k, hk, e1⟩ := in8_to hv
    by_cases g : f (i + 2) < 0
    · refine lw_output (B := fun _ => True) hc hex hX hxl hxb hlen hi (t := 1099511627776) (PA := fun M' => M' = fm_M2) (fr1 := 2) (lo1 := 45) (by decide) (by decide) hz ?_ ?_ (fun M' _ => kk M')
      · rw [e1]; exact c_output (by decide) fr_AP (c_valueOf_lo (o := 66) (q := 67) (by decide) (by decide) (by decide) (by decide) (by decide) (by decide) fr_sy.1 (in8_of hk) g)
      · intro M1 hM1
        have FR : fm_FR M1 := by rw [hM1]; exact fr_FR
        exact ⟨1, 22, _, by decide, by decide, by rw [e1]; exact r_output_bad2 (by decide) FR.1 hk (no_rng (FR.2.2.2.2.1 k hk).1), fun _ _ => trivial⟩
    · by_cases g2 : nI 16 ≤ f (i + 2)
      · refine lw_output (B := fun _ => True) hc hex hX hxl hxb hlen hi (t := 1099511627776) (PA := fun M' => M' = fm_M2) (fr1 := 2) (lo1 := 45) (by decide) (by decide) hz ?_ ?_ (fun M' _ => kk M')
        · rw [e1]; exact c_output (by decide) fr_AP (c_valueOf_hi (o := 66) (q := 67) (by decide) (by decide) (by decide) (by decide) (by decide) (by decide) fr_sy.1 (in8_of hk) g g2)
        · intro M1 hM1
          have FR : fm_FR M1 := by rw [hM1]; exact fr_FR
          exact ⟨1, 22, _, by decide, by decide, by rw [e1]; exact r_output_bad2 (by decide) FR.1 hk (no_rng (FR.2.2.2.2.1 k hk).1), fun _ _ => trivial⟩
      · refine lw_output (B := fun _ => True) hc hex hX hxl hxb hlen hi (t := 1099511627776) (PA := fun M' => M' = fm_M2) (fr1 := 2) (lo1 := 45) (by decide) (by decide) hz ?_ ?_ (fun M' _ => kk M')
        · rw [e1]; exact c_output (by decide) fr_AP (c_valueOf_no (o := 66) (q := 67) (by decide) (by decide) (by decide) (by decide) (by decide) (by decide) fr_sy.1 hk g g2 (by rw [(fr_cnt k hk).2]; exact sh0 _))
        · intro M1 hM1
          have FR : fm_FR M1 := by rw [hM1]; exact fr_FR
          exact ⟨1, 22, _, by decide, by decide, by rw [e1]; exact r_output_bad2 (by decide) FR.1 hk (no_rng (FR.2.2.2.2.1 k hk).1), fun _ _ => trivial⟩
  · refine lw_output (B := fun _ => True) hc hex hX hxl hxb hlen hi (t := 1099511627776) (PA := fun M' => M' = fm_M2) (fr1 := 2) (lo1 := 45) (by decide) (by decide) hz ?_ ?_ (fun M' _ => kk M')
    · exact c_output (by decide) fr_AP (c_valueOf_bad (o := 66) (q := 67) (by decide) (by decide) (by decide) (by decide) (by decide) (by decide) fr_sy.1 hv)
    · intro M1 hM1
      have FR : fm_FR M1 := by rw [hM1]; exact fr_FR
      exact ⟨1, 22, _, by decide, by decide, by exact r_output_bad1 (by decide) FR.1 hv, fun _ _ => trivial⟩
theorem f_expectedOutput (htr : l.stackTraces = false) (hc : fm_Cx p s m args meth c fm_cl b D 7 b_Lw_law "AgentNetLaw" fm_T0 (fm_tys dA)) (hex : fm_EX b x s) (hX : va_X (x 0) len f s s.heap) (hxl : x 0 < s.heap.size) (hxb : x 0 < b) (hlen : len < 2 ^ 31) (hi : i + 5 ≤ len) (hz : z.1 + 0 ≤ room_1.cells ∧ z.2 + 0 ≤ room_1.slots) (kk : ∀ M', fm_G p l e room_1 s m args below meth c Q fm_lay fm_nf fm_fk fm_cl b x D dA 7 1091 [(4, .int (nI i)), (3, .ref 629), (2, .ref 586), (1, .ref 8), (0, .ref 0)] [] 630 M' z) : fm_G p l e room_1 s m args below meth c Q fm_lay fm_nf fm_fk fm_cl b x D dA 7 1053 [(4, .int (nI i)), (3, .ref 629), (2, .ref 586), (1, .ref 8), (0, .ref 0)] [] 630 fm_M2 z := by
  by_cases hv : fm_in 8 (f (i + 1))
  · obtain ⟨k, hk, e1⟩ := in8_to hv
    by_cases g : f (i + 2) < 0
    · refine lw_expectedOutput (B := fun _ => True) hc hex hX hxl hxb hlen hi (t := 1099511627776) (PA := fun M' => M' = fm_M2) (fr1 := 2) (lo1 := 45) (by decide) (by decide) hz ?_ ?_ (fun M' _ => kk M')
      · rw [e1]; exact c_expectedOutput (by decide) fr_AP fr_sy.2.1 (c_valueOf_lo (o := 70) (q := 71) (by decide) (by decide) (by decide) (by decide) (by decide) (by decide) fr_sy.2.2.2.1 (in8_of hk) g)
      · intro M1 hM1
        have FR : fm_FR M1 := by rw [hM1]; exact fr_FR
        exact ⟨2, 44, _, by decide, by decide, by rw [e1]; exact r_expectedOutput_no (by decide) FR.1 hk (by rw [FR.2.1]; exact nI_pos (by omega)), fun _ _ => trivial⟩
    · by_cases g2 : nI 16 ≤ f (i + 2)
      · refine lw_expectedOutput (B := fun _ => True) hc hex hX hxl hxb hlen hi (t := 1099511627776) (PA := fun M' => M' = fm_M2) (fr1 := 2) (lo1 := 45) (by decide) (by decide) hz ?_ ?_ (fun M' _ => kk M')
        · rw [e1]; exact c_expectedOutput (by decide) fr_AP fr_sy.2.1 (c_valueOf_hi (o := 70) (q := 71) (by decide) (by decide) (by decide) (by decide) (by decide) (by decide) fr_sy.2.2.2.1 (in8_of hk) g g2)
        · intro M1 hM1
          have FR : fm_FR M1 := by rw [hM1]; exact fr_FR
          exact ⟨2, 44, _, by decide, by decide, by rw [e1]; exact r_expectedOutput_no (by decide) FR.1 hk (by rw [FR.2.1]; exact nI_pos (by omega)), fun _ _ => trivial⟩
      · refine lw_expectedOutput (B := fun _ => True) hc hex hX hxl hxb hlen hi (t := 1099511627776) (PA := fun M' => M' = fm_M2) (fr1 := 2) (lo1 := 45) (by decide) (by decide) hz ?_ ?_ (fun M' _ => kk M')
        · rw [e1]; exact c_expectedOutput (by decide) fr_AP fr_sy.2.1 (c_valueOf_no (o := 70) (q := 71) (by decide) (by decide) (by decide) (by decide) (by decide) (by decide) fr_sy.2.2.2.1 hk g g2 (by rw [(fr_s0 k hk).1]; exact sh0 _))
        · intro M1 hM1
          have FR : fm_FR M1 := by rw [hM1]; exact fr_FR
          exact ⟨2, 44, _, by decide, by decide, by rw [e1]; exact r_expectedOutput_no (by decide) FR.1 hk (by rw [FR.2.1]; exact nI_pos (by omega)), fun _ _ => trivial⟩
  · refine lw_expectedOutput (B := fun _ => True) hc hex hX hxl hxb hlen hi (t := 1099511627776) (PA := fun M' => M' = fm_M2) (fr1 := 2) (lo1 := 45) (by decide) (by decide) hz ?_ ?_ (fun M' _ => kk M')
    · exact c_expectedOutput (by decide) fr_AP fr_sy.2.1 (c_valueOf_bad (o := 70) (q := 71) (by decide) (by decide) (by decide) (by decide) (by decide) (by decide) fr_sy.2.2.2.1 hv)
    · intro M1 hM1
      have FR : fm_FR M1 := by rw [hM1]; exact fr_FR
      exact ⟨2, 44, _, by decide, by decide, by exact r_expectedOutput_bad (by decide) FR.1 hv, fun _ _ => trivial⟩
theorem f_expected (htr : l.stackTraces = false) (hc : fm_Cx p s m args meth c fm_cl b D 7 b_Lw_law "AgentNetLaw" fm_T0 (fm_tys dA)) (hex : fm_EX b x s) (hX : va_X (x 0) len f s s.heap) (hxl : x 0 < s.heap.size) (hxb : x 0 < b) (hlen : len < 2 ^ 31) (hi : i + 5 ≤ len) (hz : z.1 + 0 ≤ room_1.cells ∧ z.2 + 0 ≤ room_1.slots) (kk : ∀ M', fm_G p l e room_1 s m args below meth c Q fm_lay fm_nf fm_fk fm_cl b x D dA 7 1091 [(4, .int (nI i)), (3, .ref 629), (2, .ref 586), (1, .ref 8), (0, .ref 0)] [] 630 M' z) : fm_G p l e room_1 s m args below meth c Q fm_lay fm_nf fm_fk fm_cl b x D dA 7 1028 [(4, .int (nI i)), (3, .ref 629), (2, .ref 586), (1, .ref 8), (0, .ref 0)] [] 630 fm_M2 z := by
  by_cases hv : fm_in 8 (f (i + 1))
  · obtain ⟨k, hk, e1⟩ := in8_to hv
    refine lw_expected (B := fun _ => True) hc hex hX hxl hxb hlen hi (t := -1) (PA := fun M' => M' = fm_M2) (fr1 := 1) (lo1 := 20) (by decide) (by decide) hz ?_ ?_ (fun M' _ => kk M')
    · rw [e1]; exact c_expected_unmet (by decide) fr_AP hk fr_an.2.2 (fr_met k hk)
    · intro M1 hM1
      have FR : fm_FR M1 := by rw [hM1]; exact fr_FR
      exact ⟨2, 44, _, by decide, by decide, by rw [e1]; exact r_expected_no (by decide) FR.1 hk (by rw [FR.2.1]; exact nI_pos (by omega)), fun _ _ => trivial⟩
  · refine lw_expected (B := fun _ => True) hc hex hX hxl hxb hlen hi (t := -1) (PA := fun M' => M' = fm_M2) (fr1 := 1) (lo1 := 20) (by decide) (by decide) hz ?_ ?_ (fun M' _ => kk M')
    · exact c_expected_bad (by decide) fr_AP hv
    · intro M1 hM1
      have FR : fm_FR M1 := by rw [hM1]; exact fr_FR
      exact ⟨2, 44, _, by decide, by decide, by exact r_expected_bad (by decide) FR.1 hv, fun _ _ => trivial⟩
theorem f_step (htr : l.stackTraces = false) (hc : fm_Cx p s m args meth c fm_cl b D 7 b_Lw_law "AgentNetLaw" fm_T0 (fm_tys dA)) (hex : fm_EX b x s) (hX : va_X (x 0) len f s s.heap) (hxl : x 0 < s.heap.size) (hxb : x 0 < b) (hlen : len < 2 ^ 31) (hi : i + 5 ≤ len) (hz : z.1 + 1 ≤ room_1.cells ∧ z.2 + 6 ≤ room_1.slots) (kk : ∀ M', fm_G p l e room_1 s m args below meth c Q fm_lay fm_nf fm_fk fm_cl b x D dA 7 1091 [(4, .int (nI i)), (3, .ref 629), (2, .ref 586), (1, .ref 8), (0, .ref 0)] [] 630 M' (z.1 + 1, z.2 + 6)) : fm_G p l e room_1 s m args below meth c Q fm_lay fm_nf fm_fk fm_cl b x D dA 7 338 [(4, .int (nI i)), (3, .ref 629), (2, .ref 586), (1, .ref 8), (0, .ref 0)] [] 630 fm_M2 z := by
  by_cases hv : fm_in 4 (f (i + 1))
  · by_cases hw : fm_wi (f (i + 2)) (nI 1) (nI 40)
    · obtain ⟨j, hj, e1⟩ := in4_to hv
      obtain ⟨k, hk1, hk40, e2⟩ := wi_to (a := 1) (b := 40) (by decide) (by decide) hw
      refine lw_step (B := fun _ => True) hc hex hX hxl hxb hlen hi (k := nI 0) (PA := fun M' => ∃ M1, (fun M' => M' = fm_M2) M1 ∧ M' = fm_put2 M1 629 0 (nI 0).toInt64) (fr1 := 11) (lo1 := 424) (by decide) (by decide) hz ?_ ?_ (fun M' _ => kk M')
      · rw [e1, e2]; exact k_step_ok (rm0 := { frames := 10, cells := 1, slots := 6, locals := 400 }) (PM := fun M' => M' = fm_M2) (x_step_ok0 htr (mm := 91 + 124 * j) (by decide) fr_AP hj ⟨j, 0, hj, by decide, rfl⟩ (fr_me j hj).1 (fr_MP j hj 0 (by decide)) (fun a ha => (by rw [show 91 + 124 * j + 1 = 92 + 124 * j by omega]; exact (fr_slot j hj a ha).1)) (fr_U hj) hk1 hk40)
      · intro M1 hM1
        obtain ⟨M0, hM0, rfl⟩ := hM1
        have FR0 : fm_FR M0 := by rw [hM0]; exact fr_FR
        have FR : fm_FR (fm_put2 M0 629 0 (nI 0).toInt64) := FR0
        exact ⟨nI 0, 2, 44, fun M' => M' = fm_put1 (fm_put2 M0 629 0 (nI 0).toInt64) 586 0 (nI 0), by decide, by decide, by rw [e1, e2]; exact r_step_ok0 (by decide) FR.1 hj (fun a ha => (FR.2.2.2.2.2.1 j hj a ha).1) (FR_U FR hj) (fun a ha => (FR.2.2.2.2.1 a ha).2) hk1 hk40, fun M' h => ⟨by rw [h]; rfl, fun _ => by rw [h]; rfl, trivial⟩⟩
    · refine lw_step (B := fun _ => True) hc hex hX hxl hxb hlen hi (k := nI 1) (PA := fun M' => M' = fm_M2) (fr1 := 7) (lo1 := 114) (by decide) (by decide) hz ?_ ?_ (fun M' _ => kk M')
      · exact k_step_x1 (rm0 := { frames := 6, cells := 1, slots := 6, locals := 90 }) (x_step_bad htr (fun h => hw (wi_of_le h.2)))
      · intro M1 hM1
        have FR : fm_FR M1 := by rw [hM1]; exact fr_FR
        exact ⟨nI 0, 2, 44, fun M' => M' = fm_put1 M1 586 0 (nI 1), by decide, by decide, by exact r_step_unfit (by decide) FR.1 hv hw, fun M' h => ⟨by rw [h]; exact p1_same _ _ _ _, fun g => absurd g (by decide), trivial⟩⟩
  · refine lw_step (B := fun _ => True) hc hex hX hxl hxb hlen hi (k := nI 1) (PA := fun M' => M' = fm_M2) (fr1 := 7) (lo1 := 114) (by decide) (by decide) hz ?_ ?_ (fun M' _ => kk M')
    · exact k_step_x1 (rm0 := { frames := 6, cells := 1, slots := 6, locals := 90 }) (x_step_bad htr (fun h => hv h.1))
    · intro M1 hM1
      have FR : fm_FR M1 := by rw [hM1]; exact fr_FR
      exact ⟨nI 0, 2, 44, fun M' => M' = fm_put1 M1 586 0 (nI 1), by decide, by decide, by exact r_step_bad (by decide) FR.1 hv, fun M' h => ⟨by rw [h]; exact p1_same _ _ _ _, fun g => absurd g (by decide), trivial⟩⟩
theorem f_tick (htr : l.stackTraces = false) (hc : fm_Cx p s m args meth c fm_cl b D 7 b_Lw_law "AgentNetLaw" fm_T0 (fm_tys dA)) (hex : fm_EX b x s) (hX : va_X (x 0) len f s s.heap) (hxl : x 0 < s.heap.size) (hxb : x 0 < b) (hlen : len < 2 ^ 31) (hi : i + 5 ≤ len) (hz : z.1 + 1 ≤ room_1.cells ∧ z.2 + 6 ≤ room_1.slots) (kk : ∀ M', fm_G p l e room_1 s m args below meth c Q fm_lay fm_nf fm_fk fm_cl b x D dA 7 1091 [(4, .int (nI i)), (3, .ref 629), (2, .ref 586), (1, .ref 8), (0, .ref 0)] [] 630 M' (z.1 + 1, z.2 + 6)) : fm_G p l e room_1 s m args below meth c Q fm_lay fm_nf fm_fk fm_cl b x D dA 7 406 [(4, .int (nI i)), (3, .ref 629), (2, .ref 586), (1, .ref 8), (0, .ref 0)] [] 630 fm_M2 z := by
  by_cases hv : fm_in 4 (f (i + 1))
  · obtain ⟨j, hj, e1⟩ := in4_to hv
    refine lw_tick (B := fun _ => True) hc hex hX hxl hxb hlen hi (k := nI 0) (PA := fun M' => ∃ M1, (fun M' => M' = fm_M2) M1 ∧ M' = fm_put2 M1 629 0 (0).toInt64) (fr1 := 11) (lo1 := 421) (by decide) (by decide) hz ?_ ?_ (fun M' _ => kk M')
    · rw [e1]; exact k_tick_ok (rm0 := { frames := 10, cells := 1, slots := 6, locals := 400 }) (PM := fun M' => M' = fm_M2) (by have h9 := x_tick_ok0 (l := l) (b := b) (x := x) (D := D) (dA := dA) (n := 630) htr (mm := 91 + 124 * j) (by decide) fr_AP hj ⟨j, 0, hj, by decide, rfl⟩ (fr_me j hj).1 (fr_MP j hj 0 (by decide)) (fun a ha => (by rw [show 91 + 124 * j + 1 = 92 + 124 * j by omega]; exact (fr_slot j hj a ha).1)) (fr_U hj); rw [fr_an.2.1] at h9; exact h9)
    · intro M1 hM1
      obtain ⟨M0, hM0, rfl⟩ := hM1
      have FR0 : fm_FR M0 := by rw [hM0]; exact fr_FR
      have FR : fm_FR (fm_put2 M0 629 0 (0).toInt64) := FR0
      exact ⟨0, 2, 44, fun M' => M' = fm_put1 (fm_put2 M0 629 0 (0).toInt64) 586 0 (nI 0), by decide, by decide, by rw [e1]; have h9 := r_tick_ok0 (l := l) (b := b) (x := x) (D := D) (dA := dA) (n := 630) (by decide) FR.1 hj (fun a ha => (FR.2.2.2.2.2.1 j hj a ha).1) (FR_U FR hj); rw [FR.2.2.1] at h9; exact h9, fun M' h => ⟨by rw [h]; rfl, fun _ => by rw [h]; rfl, trivial⟩⟩
  · refine lw_tick (B := fun _ => True) hc hex hX hxl hxb hlen hi (k := nI 1) (PA := fun M' => M' = fm_M2) (fr1 := 7) (lo1 := 111) (by decide) (by decide) hz ?_ ?_ (fun M' _ => kk M')
    · exact k_tick_x1 (rm0 := { frames := 6, cells := 1, slots := 6, locals := 90 }) (x_tick_bad htr hv)
    · intro M1 hM1
      have FR : fm_FR M1 := by rw [hM1]; exact fr_FR
      exact ⟨nI 0, 2, 44, fun M' => M' = fm_put1 M1 586 0 (nI 1), by decide, by decide, by exact r_tick_bad (by decide) FR.1 hv, fun M' h => ⟨by rw [h]; exact p1_same _ _ _ _, fun g => absurd g (by decide), trivial⟩⟩
theorem f_checkpoint (htr : l.stackTraces = false) (hc : fm_Cx p s m args meth c fm_cl b D 7 b_Lw_law "AgentNetLaw" fm_T0 (fm_tys dA)) (hex : fm_EX b x s) (hX : va_X (x 0) len f s s.heap) (hxl : x 0 < s.heap.size) (hxb : x 0 < b) (hlen : len < 2 ^ 31) (hi : i + 5 ≤ len) (hz : z.1 + 1 ≤ room_1.cells ∧ z.2 + 6 ≤ room_1.slots) (kk : ∀ M', fm_G p l e room_1 s m args below meth c Q fm_lay fm_nf fm_fk fm_cl b x D dA 7 1091 [(4, .int (nI i)), (3, .ref 629), (2, .ref 586), (1, .ref 8), (0, .ref 0)] [] 630 M' (z.1 + 1, z.2 + 6)) : fm_G p l e room_1 s m args below meth c Q fm_lay fm_nf fm_fk fm_cl b x D dA 7 462 [(4, .int (nI i)), (3, .ref 629), (2, .ref 586), (1, .ref 8), (0, .ref 0)] [] 630 fm_M2 z := by
  by_cases hv : fm_in 4 (f (i + 1))
  · obtain ⟨j, hj, e1⟩ := in4_to hv
    refine lw_checkpoint (B := fun _ => True) hc hex hX hxl hxb hlen hi (k := nI 0) (PA := fun M' => ∃ M1, (fun M' => M' = fm_put1 fm_M2 (90 + 124 * j) 2 (nI 1)) M1 ∧ M' = fm_put2 M1 629 0 (nI 1).toInt64) (fr1 := 11) (lo1 := 421) (by decide) (by decide) hz ?_ ?_ (fun M' _ => kk M')
    · rw [e1]; exact k_checkpoint_ok (rm0 := { frames := 10, cells := 1, slots := 6, locals := 400 }) (PM := fun M' => M' = fm_put1 fm_M2 (90 + 124 * j) 2 (nI 1)) (x_checkpoint_ok0 htr (mm := 173 + 124 * j) (mo := 91 + 124 * j) (by decide) fr_AP hj ⟨j, 2, hj, by decide, by omega⟩ ⟨j, 0, hj, by decide, rfl⟩ (fr_cp j hj).2 (fr_me j hj).1 (by have h9 := fr_MP j hj 2 (by decide); rw [show 91 + 124 * j + 41 * 2 = 173 + 124 * j by omega] at h9; exact h9) (fr_MP j hj 0 (by decide)) (fun a ha => (by rw [show 173 + 124 * j + 1 = 174 + 124 * j by omega]; exact (fr_sl j hj a ha).2.2.1)) (fun a ha => by rw [show 91 + 124 * j + 1 = 92 + 124 * j by omega, show 173 + 124 * j + 1 = 174 + 124 * j by omega]; exact ((fr_sl j hj a ha).1.trans (fr_sl j hj a ha).2.2.1.symm)) (fun a ha => by rw [show 91 + 124 * j + 2 = 93 + 124 * j by omega, show 173 + 124 * j + 2 = 175 + 124 * j by omega]; exact (fr_sl j hj a ha).2.2.2.1) (fun a ha => by rw [show 91 + 124 * j + 3 = 94 + 124 * j by omega, show 173 + 124 * j + 3 = 176 + 124 * j by omega]; exact (fr_sl j hj a ha).2.2.2.2) (fun a ha => by rw [show 91 + 124 * j + 4 = 95 + 124 * j by omega, show 173 + 124 * j + 4 = 177 + 124 * j by omega]; exact (fr_sl2 j hj a ha).1) (fun a ha => by rw [show 91 + 124 * j + 7 = 98 + 124 * j by omega, show 173 + 124 * j + 7 = 180 + 124 * j by omega]; exact (fr_sl2 j hj a ha).2) (fun a ha => by rw [show 91 + 124 * j + 8 = 99 + 124 * j by omega, show 173 + 124 * j + 8 = 181 + 124 * j by omega]; exact fr_va j hj a ha) (fr_U hj) (by rw [(fr_up j hj).2]; decide))
    · intro M1 hM1
      obtain ⟨M0, hM0, rfl⟩ := hM1
      have FR0 : fm_FR M0 := by rw [hM0]; exact FR_hi (hi_p1 (by omega) (hi_rf _)) fr_FR
      have FR : fm_FR (fm_put2 M0 629 0 (nI 1).toInt64) := FR0
      exact ⟨nI 1, 2, 60, fun M' => M' = fm_put1 (fm_put1 (fm_put2 M0 629 0 (nI 1).toInt64) 586 0 (nI 0)) 596 j (nI 1), by decide, by decide, by rw [e1]; exact r_checkpoint_ok0 (by decide) FR.1 hj (fun a ha => (FR.2.2.2.2.2.1 j hj a ha).1) (FR_U FR hj) (by rw [(FR.2.2.2.1 j hj).2.1]; decide) (FR.2.2.2.2.2.2 j hj), fun M' h => ⟨by rw [h]; rfl, fun _ => by rw [h]; rfl, trivial⟩⟩
  · refine lw_checkpoint (B := fun _ => True) hc hex hX hxl hxb hlen hi (k := nI 1) (PA := fun M' => M' = fm_M2) (fr1 := 7) (lo1 := 111) (by decide) (by decide) hz ?_ ?_ (fun M' _ => kk M')
    · exact k_checkpoint_x1 (rm0 := { frames := 6, cells := 1, slots := 6, locals := 90 }) (x_checkpoint_bad htr hv)
    · intro M1 hM1
      have FR : fm_FR M1 := by rw [hM1]; exact fr_FR
      exact ⟨nI 0, 2, 44, fun M' => M' = fm_put1 M1 586 0 (nI 1), by decide, by decide, by exact r_checkpoint_bad (by decide) FR.1 hv, fun M' h => ⟨by rw [h]; exact p1_same _ _ _ _, fun g => absurd g (by decide), trivial⟩⟩
theorem f_write (htr : l.stackTraces = false) (hc : fm_Cx p s m args meth c fm_cl b D 7 b_Lw_law "AgentNetLaw" fm_T0 (fm_tys dA)) (hex : fm_EX b x s) (hX : va_X (x 0) len f s s.heap) (hxl : x 0 < s.heap.size) (hxb : x 0 < b) (hlen : len < 2 ^ 31) (hi : i + 5 ≤ len) (hz : z.1 + 1 ≤ room_1.cells ∧ z.2 + 6 ≤ room_1.slots) (kk : ∀ M', fm_G p l e room_1 s m args below meth c Q fm_lay fm_nf fm_fk fm_cl b x D dA 7 1091 [(4, .int (nI i)), (3, .ref 629), (2, .ref 586), (1, .ref 8), (0, .ref 0)] [] 630 M' (z.1 + 1, z.2 + 6)) : fm_G p l e room_1 s m args below meth c Q fm_lay fm_nf fm_fk fm_cl b x D dA 7 518 [(4, .int (nI i)), (3, .ref 629), (2, .ref 586), (1, .ref 8), (0, .ref 0)] [] 630 fm_M2 z := by
  by_cases hw : f (i + 2) ≤ 0
  · by_cases hv : fm_in 4 (f (i + 1))
    · refine lw_write (B := fun _ => True) hc hex hX hxl hxb hlen hi (k := nI 1) (PA := fun M' => M' = fm_M2) (fr1 := 7) (lo1 := 113) (by decide) (by decide) hz ?_ ?_ (fun M' _ => kk M')
      · exact k_write_x1 (rm0 := { frames := 6, cells := 1, slots := 6, locals := 90 }) (x_write_bad htr (fun h => absurd hw (ge1.mp h.2)))
      · intro M1 hM1
        have FR : fm_FR M1 := by rw [hM1]; exact fr_FR
        exact ⟨nI 0, 2, 44, fun M' => M' = fm_put1 M1 586 0 (nI 1), by decide, by decide, by exact r_write_unfit (by decide) FR.1 hv hw, fun M' h => ⟨by rw [h]; exact p1_same _ _ _ _, fun g => absurd g (by decide), trivial⟩⟩
    · refine lw_write (B := fun _ => True) hc hex hX hxl hxb hlen hi (k := nI 1) (PA := fun M' => M' = fm_M2) (fr1 := 7) (lo1 := 113) (by decide) (by decide) hz ?_ ?_ (fun M' _ => kk M')
      · exact k_write_x1 (rm0 := { frames := 6, cells := 1, slots := 6, locals := 90 }) (x_write_bad htr (fun h => absurd hw (ge1.mp h.2)))
      · intro M1 hM1
        have FR : fm_FR M1 := by rw [hM1]; exact fr_FR
        exact ⟨nI 0, 2, 44, fun M' => M' = fm_put1 M1 586 0 (nI 1), by decide, by decide, by exact r_write_bad0 (by decide) FR.1 hv hw, fun M' h => ⟨by rw [h]; exact p1_same _ _ _ _, fun g => absurd g (by decide), trivial⟩⟩
  · by_cases hv : fm_in 4 (f (i + 1))
    · obtain ⟨j, hj, e1⟩ := in4_to hv
      refine lw_write (B := fun _ => True) hc hex hX hxl hxb hlen hi (k := nI 2) (PA := fun M' => M' = fm_M2) (fr1 := 7) (lo1 := 113) (by decide) (by decide) hz ?_ ?_ (fun M' _ => kk M')
      · rw [e1]; exact k_write_x2 (rm0 := { frames := 6, cells := 1, slots := 6, locals := 90 }) (x_write_none htr hj (by decide) fr_AP (ge1.mpr hw) (fr_U hj) (fr_up j hj).2)
      · intro M1 hM1
        have FR : fm_FR M1 := by rw [hM1]; exact fr_FR
        exact ⟨nI 0, 2, 44, fun M' => M' = fm_put1 M1 586 0 (nI 2), by decide, by decide, by rw [e1]; exact r_write_none (by decide) FR.1 hj hw (FR_U FR hj) (FR.2.2.2.1 j hj).2.1, fun M' h => ⟨by rw [h]; exact p1_same _ _ _ _, fun g => absurd g (by decide), trivial⟩⟩
    · refine lw_write (B := fun _ => True) hc hex hX hxl hxb hlen hi (k := nI 1) (PA := fun M' => M' = fm_M2) (fr1 := 7) (lo1 := 113) (by decide) (by decide) hz ?_ ?_ (fun M' _ => kk M')
      · exact k_write_x1 (rm0 := { frames := 6, cells := 1, slots := 6, locals := 90 }) (x_write_bad htr (fun h => hv h.1))
      · intro M1 hM1
        have FR : fm_FR M1 := by rw [hM1]; exact fr_FR
        exact ⟨nI 0, 2, 44, fun M' => M' = fm_put1 M1 586 0 (nI 1), by decide, by decide, by exact r_write_bad (by decide) FR.1 hv hw, fun M' h => ⟨by rw [h]; exact p1_same _ _ _ _, fun g => absurd g (by decide), trivial⟩⟩
theorem f_crash (htr : l.stackTraces = false) (hc : fm_Cx p s m args meth c fm_cl b D 7 b_Lw_law "AgentNetLaw" fm_T0 (fm_tys dA)) (hex : fm_EX b x s) (hX : va_X (x 0) len f s s.heap) (hxl : x 0 < s.heap.size) (hxb : x 0 < b) (hlen : len < 2 ^ 31) (hi : i + 5 ≤ len) (hz : z.1 + 1 ≤ room_1.cells ∧ z.2 + 6 ≤ room_1.slots) (kk : ∀ M', fm_G p l e room_1 s m args below meth c Q fm_lay fm_nf fm_fk fm_cl b x D dA 7 1091 [(4, .int (nI i)), (3, .ref 629), (2, .ref 586), (1, .ref 8), (0, .ref 0)] [] 630 M' (z.1 + 1, z.2 + 6)) : fm_G p l e room_1 s m args below meth c Q fm_lay fm_nf fm_fk fm_cl b x D dA 7 586 [(4, .int (nI i)), (3, .ref 629), (2, .ref 586), (1, .ref 8), (0, .ref 0)] [] 630 fm_M2 z := by
  by_cases hv : fm_in 4 (f (i + 1))
  · obtain ⟨j, hj, e1⟩ := in4_to hv
    refine lw_crash (B := fun _ => True) hc hex hX hxl hxb hlen hi (k := nI 0) (PA := fun M' => ∃ M1, (fun M' => M' = fm_put1 (fm_put1 fm_M2 (90 + 124 * j) 1 (nI 0)) (90 + 124 * j) 2 (nI 0)) M1 ∧ M' = fm_put2 M1 629 0 (if nI 1 = 0 then 0 else 1)) (fr1 := 7) (lo1 := 111) (by decide) (by decide) hz ?_ ?_ (fun M' _ => kk M')
    · rw [e1]; exact k_crash_ok (rm0 := { frames := 6, cells := 1, slots := 6, locals := 90 }) (PM := fun M' => M' = fm_put1 (fm_put1 fm_M2 (90 + 124 * j) 1 (nI 0)) (90 + 124 * j) 2 (nI 0)) (x_crash_go htr hj (by decide) fr_AP (fr_U hj))
    · intro M1 hM1
      obtain ⟨M0, hM0, rfl⟩ := hM1
      have FR0 : fm_FR M0 := by rw [hM0]; exact FR_hi (hi_p1 (by omega) (hi_p1 (by omega) (hi_rf _))) fr_FR
      have FR : fm_FR (fm_put2 M0 629 0 (if nI 1 = 0 then 0 else 1)) := FR0
      exact ⟨nI 1, 1, 22, fun M' => M' = m_fgt (fm_put1 (fm_put1 (fm_put1 (fm_put2 M0 629 0 (if nI 1 = 0 then 0 else 1)) 586 0 (nI 0)) 595 j (vp_nar .boolean (nI 0))) 596 j (nI 0)) (8 * (3 * j)) 8, by decide, by decide, by rw [e1]; exact r_crash_go (by decide) FR.1 hj (FR_U FR hj), fun M' h => ⟨by rw [h]; rfl, fun _ => by rw [h]; rfl, trivial⟩⟩
  · refine lw_crash (B := fun _ => True) hc hex hX hxl hxb hlen hi (k := nI 1) (PA := fun M' => M' = fm_M2) (fr1 := 7) (lo1 := 111) (by decide) (by decide) hz ?_ ?_ (fun M' _ => kk M')
    · exact k_crash_x1 (rm0 := { frames := 6, cells := 1, slots := 6, locals := 90 }) (x_crash_bad htr hv)
    · intro M1 hM1
      have FR : fm_FR M1 := by rw [hM1]; exact fr_FR
      exact ⟨nI 0, 1, 22, fun M' => M' = fm_put1 M1 586 0 (nI 1), by decide, by decide, by exact r_crash_bad (by decide) FR.1 hv, fun M' h => ⟨by rw [h]; exact p1_same _ _ _ _, fun g => absurd g (by decide), trivial⟩⟩
theorem f_start (htr : l.stackTraces = false) (hc : fm_Cx p s m args meth c fm_cl b D 7 b_Lw_law "AgentNetLaw" fm_T0 (fm_tys dA)) (hex : fm_EX b x s) (hX : va_X (x 0) len f s s.heap) (hxl : x 0 < s.heap.size) (hxb : x 0 < b) (hlen : len < 2 ^ 31) (hi : i + 5 ≤ len) (hz : z.1 + 1 ≤ room_1.cells ∧ z.2 + 6 ≤ room_1.slots) (kk : ∀ M', fm_G p l e room_1 s m args below meth c Q fm_lay fm_nf fm_fk fm_cl b x D dA 7 1091 [(4, .int (nI i)), (3, .ref 629), (2, .ref 586), (1, .ref 8), (0, .ref 0)] [] 630 M' (z.1 + 1, z.2 + 6)) : fm_G p l e room_1 s m args below meth c Q fm_lay fm_nf fm_fk fm_cl b x D dA 7 649 [(4, .int (nI i)), (3, .ref 629), (2, .ref 586), (1, .ref 8), (0, .ref 0)] [] 630 fm_M2 z := by
  by_cases hv : fm_in 4 (f (i + 1))
  · obtain ⟨j, hj, e1⟩ := in4_to hv
    refine lw_start (B := fun _ => True) hc hex hX hxl hxb hlen hi (k := nI 0) (PA := fun M' => ∃ M1, (fun M' => M' = fm_M2) M1 ∧ M' = fm_put2 M1 629 0 (if nI 0 = 0 then 0 else 1)) (fr1 := 7) (lo1 := 111) (by decide) (by decide) hz ?_ ?_ (fun M' _ => kk M')
    · rw [e1]; exact k_start_ok (rm0 := { frames := 6, cells := 1, slots := 6, locals := 90 }) (PM := fun M' => M' = fm_M2) (x_start_idle htr hj (by decide) fr_AP (fr_U hj))
    · intro M1 hM1
      obtain ⟨M0, hM0, rfl⟩ := hM1
      have FR0 : fm_FR M0 := by rw [hM0]; exact fr_FR
      have FR : fm_FR (fm_put2 M0 629 0 (if nI 0 = 0 then 0 else 1)) := FR0
      exact ⟨nI 0, 1, 22, fun M' => M' = fm_put1 (fm_put2 M0 629 0 (if nI 0 = 0 then 0 else 1)) 586 0 (nI 0), by decide, by decide, by rw [e1]; exact r_start_idle (by decide) FR.1 hj (FR_U FR hj), fun M' h => ⟨by rw [h]; rfl, fun _ => by rw [h]; rfl, trivial⟩⟩
  · refine lw_start (B := fun _ => True) hc hex hX hxl hxb hlen hi (k := nI 1) (PA := fun M' => M' = fm_M2) (fr1 := 7) (lo1 := 111) (by decide) (by decide) hz ?_ ?_ (fun M' _ => kk M')
    · exact k_start_x1 (rm0 := { frames := 6, cells := 1, slots := 6, locals := 90 }) (x_start_bad htr hv)
    · intro M1 hM1
      have FR : fm_FR M1 := by rw [hM1]; exact fr_FR
      exact ⟨nI 0, 1, 22, fun M' => M' = fm_put1 M1 586 0 (nI 1), by decide, by decide, by exact r_start_bad (by decide) FR.1 hv, fun M' h => ⟨by rw [h]; exact p1_same _ _ _ _, fun g => absurd g (by decide), trivial⟩⟩
theorem f_net (htr : l.stackTraces = false) (hc : fm_Cx p s m args meth c fm_cl b D 7 b_Lw_law "AgentNetLaw" fm_T0 (fm_tys dA)) (hex : fm_EX b x s) (hX : va_X (x 0) len f s s.heap) (hxl : x 0 < s.heap.size) (hxb : x 0 < b) (hlen : len < 2 ^ 31) (hi : i + 5 ≤ len) (hz : z.1 + 1 ≤ room_1.cells ∧ z.2 + 6 ≤ room_1.slots) (kk : ∀ M', fm_G p l e room_1 s m args below meth c Q fm_lay fm_nf fm_fk fm_cl b x D dA 7 1091 [(4, .int (nI i)), (3, .ref 629), (2, .ref 586), (1, .ref 8), (0, .ref 0)] [] 630 M' (z.1 + 1, z.2 + 6)) : fm_G p l e room_1 s m args below meth c Q fm_lay fm_nf fm_fk fm_cl b x D dA 7 712 [(4, .int (nI i)), (3, .ref 629), (2, .ref 586), (1, .ref 8), (0, .ref 0)] [] 630 fm_M2 z := by
  by_cases hw : ¬ f (i + 2) = 0 ∧ ¬ f (i + 2) = nI 1 ∧ ¬ f (i + 2) = nI 2
  · refine lw_net (B := fun _ => True) hc hex hX hxl hxb hlen hi (k := nI 1) (PA := fun M' => M' = fm_M2) (fr1 := 7) (lo1 := 113) (by decide) (by decide) hz ?_ ?_ (fun M' _ => kk M')
    · exact k_net_x1 (rm0 := { frames := 6, cells := 1, slots := 6, locals := 90 }) (x_net_bad htr hw)
    · intro M1 hM1
      have FR : fm_FR M1 := by rw [hM1]; exact fr_FR
      exact ⟨nI 0, 1, 22, fun M' => M' = fm_put1 M1 586 0 (nI 1), by decide, by decide, by exact r_net_bad (by decide) FR.1 (no02 hw), fun M' h => ⟨by rw [h]; exact p1_same _ _ _ _, fun g => absurd g (by decide), trivial⟩⟩
  · rcases wi02 hw with e2 | e2 | e2
    · refine lw_net (B := fun _ => True) hc hex hX hxl hxb hlen hi (k := nI 2) (PA := fun M' => M' = fm_M2) (fr1 := 7) (lo1 := 113) (by decide) (by decide) hz ?_ ?_ (fun M' _ => kk M')
      · rw [e2]; exact k_net_x2 (rm0 := { frames := 6, cells := 1, slots := 6, locals := 90 }) (x_net_out0 htr (by decide) fr_AP no_msg)
      · intro M1 hM1
        have FR : fm_FR M1 := by rw [hM1]; exact fr_FR
        exact ⟨nI 0, 1, 22, fun M' => M' = fm_put1 M1 586 0 (nI 2), by decide, by decide, by rw [e2]; exact r_net_out (by decide) FR.1 ⟨by decide, by decide⟩ (no_rng FR.2.2.1), fun M' h => ⟨by rw [h]; exact p1_same _ _ _ _, fun g => absurd g (by decide), trivial⟩⟩
    · refine lw_net (B := fun _ => True) hc hex hX hxl hxb hlen hi (k := nI 2) (PA := fun M' => M' = fm_M2) (fr1 := 7) (lo1 := 113) (by decide) (by decide) hz ?_ ?_ (fun M' _ => kk M')
      · rw [e2]; exact k_net_x2 (rm0 := { frames := 6, cells := 1, slots := 6, locals := 90 }) (x_net_out1 htr (by decide) fr_AP no_msg)
      · intro M1 hM1
        have FR : fm_FR M1 := by rw [hM1]; exact fr_FR
        exact ⟨nI 0, 1, 22, fun M' => M' = fm_put1 M1 586 0 (nI 2), by decide, by decide, by rw [e2]; exact r_net_out (by decide) FR.1 ⟨by decide, by decide⟩ (no_rng FR.2.2.1), fun M' h => ⟨by rw [h]; exact p1_same _ _ _ _, fun g => absurd g (by decide), trivial⟩⟩
    · refine lw_net (B := fun _ => True) hc hex hX hxl hxb hlen hi (k := nI 2) (PA := fun M' => M' = fm_M2) (fr1 := 7) (lo1 := 113) (by decide) (by decide) hz ?_ ?_ (fun M' _ => kk M')
      · rw [e2]; exact k_net_x2 (rm0 := { frames := 6, cells := 1, slots := 6, locals := 90 }) (x_net_out2 htr (by decide) fr_AP no_msg)
      · intro M1 hM1
        have FR : fm_FR M1 := by rw [hM1]; exact fr_FR
        exact ⟨nI 0, 1, 22, fun M' => M' = fm_put1 M1 586 0 (nI 2), by decide, by decide, by rw [e2]; exact r_net_out (by decide) FR.1 ⟨by decide, by decide⟩ (no_rng FR.2.2.1), fun M' h => ⟨by rw [h]; exact p1_same _ _ _ _, fun g => absurd g (by decide), trivial⟩⟩
theorem f_launch (htr : l.stackTraces = false) (hc : fm_Cx p s m args meth c fm_cl b D 7 b_Lw_law "AgentNetLaw" fm_T0 (fm_tys dA)) (hex : fm_EX b x s) (hX : va_X (x 0) len f s s.heap) (hxl : x 0 < s.heap.size) (hxb : x 0 < b) (hlen : len < 2 ^ 31) (hi : i + 5 ≤ len) (hz : z.1 + 1 ≤ room_1.cells ∧ z.2 + 6 ≤ room_1.slots) (kk : ∀ M', fm_G p l e room_1 s m args below meth c Q fm_lay fm_nf fm_fk fm_cl b x D dA 7 1091 [(4, .int (nI i)), (3, .ref 629), (2, .ref 586), (1, .ref 8), (0, .ref 0)] [] 630 M' (z.1 + 1, z.2 + 6)) : fm_G p l e room_1 s m args below meth c Q fm_lay fm_nf fm_fk fm_cl b x D dA 7 258 [(4, .int (nI i)), (3, .ref 629), (2, .ref 586), (1, .ref 8), (0, .ref 0)] [] 630 fm_M2 z := by
  by_cases hv : fm_in 4 (f (i + 1))
  · by_cases hw : fm_in 4 (f (i + 2))
    · by_cases hu : fm_wi (f (i + 3)) (nI 1) (nI 200)
      · obtain ⟨j, hj, e1⟩ := in4_to hv
        obtain ⟨p0, hp0, e2⟩ := in4_to hw
        have hi3 : fm_hi fm_M2 (m_settle (m_begin (fm_put1 fm_M2 8 7 (nI (0 + 1))) (91 + 124 * j + (9 + 4 * 0)) (nI 0) (nI p0) (f (i + 3))) (91 + 124 * j) 0 (nI 0)) := hi_tr (hi_tr (hi_p1 (by decide) (hi_rf _)) (mbeg_hi (by omega))) (mset_hi (by omega))
        have e22 : (m_settle (m_begin (fm_put1 fm_M2 8 7 (nI (0 + 1))) (91 + 124 * j + (9 + 4 * 0)) (nI 0) (nI p0) (f (i + 3))) (91 + 124 * j) 0 (nI 0)).2.2 = fm_M2.2.2 := l22 fm_M2 _ _ _ _ _ _ _ _
        have hA3 : fm_AP (m_settle (m_begin (fm_put1 fm_M2 8 7 (nI (0 + 1))) (91 + 124 * j + (9 + 4 * 0)) (nI 0) (nI p0) (f (i + 3))) (91 + 124 * j) 0 (nI 0)) := by
          show ∀ q ∈ fm_ap, (m_settle (m_begin (fm_put1 fm_M2 8 7 (nI (0 + 1))) (91 + 124 * j + (9 + 4 * 0)) (nI 0) (nI p0) (f (i + 3))) (91 + 124 * j) 0 (nI 0)).2.2 q.1 q.2.1 = some q.2.2
          rw [e22]
          exact fr_AP
        refine lw_launch (B := fun _ => True) hc hex hX hxl hxb hlen hi (k := nI 0) (PA := fun M' => ∃ M1, (fun M' => fm_hi (m_settle (m_begin (fm_put1 fm_M2 8 7 (nI (0 + 1))) (91 + 124 * j + (9 + 4 * 0)) (nI 0) (nI p0) (f (i + 3))) (91 + 124 * j) 0 (nI 0)) M') M1 ∧ M' = fm_put2 M1 629 0 (nI 0).toInt64) (fr1 := 11) (lo1 := 425) (by decide) (by decide) hz ?_ ?_ (fun M' _ => kk M')
        · rw [e1, e2]; exact k_launch_ok (rm0 := { frames := 10, cells := 1, slots := 6, locals := 400 }) (PM := fun M' => fm_hi (m_settle (m_begin (fm_put1 fm_M2 8 7 (nI (0 + 1))) (91 + 124 * j + (9 + 4 * 0)) (nI 0) (nI p0) (f (i + 3))) (91 + 124 * j) 0 (nI 0)) M') (x_launch_go (a := 0) (mm := 91 + 124 * j) htr (by decide) fr_AP hj hp0 (by decide) (le_of_wi hu) fr_an.1 (fr_U hj) ⟨j, 0, hj, by decide, rfl⟩ (fr_me j hj).1 (fr_MP j hj 0 (by decide)) (c_follow0 (M := m_settle (m_begin (fm_put1 fm_M2 8 7 (nI (0 + 1))) (91 + 124 * j + (9 + 4 * 0)) (nI 0) (nI p0) (f (i + 3))) (91 + 124 * j) 0 (nI 0)) (a := 0) (q := (91 + 124 * j + (9 + 4 * 0))) (by decide) hA3 hj hp0 (by decide) (by omega) (by omega) (ly_Mt (mm := 91 + 124 * j) (a := 0) ⟨j, 0, hj, by decide, rfl⟩ (by decide)) (by rw [show 91 + 124 * j + (9 + 4 * 0) + 1 = 101 + 124 * j by omega]; exact (fr_lm hj).2.2.2.2.1) (by rw [show 91 + 124 * j + (9 + 4 * 0) + 2 = 102 + 124 * j by omega]; exact (fr_lm hj).2.2.2.2.2.1) (by rw [show 91 + 124 * j + (9 + 4 * 0) + 3 = 103 + 124 * j by omega]; exact (fr_lm hj).2.2.2.2.2.2) (by omega) (by rw [e22]; exact fr_sy.2.2.2.2.1) (by rw [e22]; exact fr_sy.2.2.2.2.2.1) (by rw [e22]; exact fr_sy.2.2.2.2.2.2) (by rw [e22]; exact (fr_MP2 j hj 0 (by decide) 0 (by decide)).2.1) (by rw [e22]; exact (fr_MP2 j hj 0 (by decide) 0 (by decide)).2.2.1) (by rw [e22]; exact (fr_MP2 j hj 0 (by decide) 0 (by decide)).2.2.2) ((mset_oth (by omega) (by omega)).trans mbeg_0) ((mset_oth (by omega) (by omega)).trans mbeg_1) ((mset_oth (by omega) (by omega)).trans mbeg_2) (by rw [((mset_oth (by omega) (by omega)).trans mbeg_3)]; exact ge1.mp (Int32.not_lt.mp hu.1)) ((mset_oth (by omega) (by omega)).trans mbeg_7) ((mset_oth (by omega) (by omega)).trans mbeg_8) ((mset_oth (by omega) (by omega)).trans mbeg_9) ((mset_oth (by omega) (by omega)).trans ((mbeg_oth (by omega)).trans ((p1_other (by omega)).trans (fr_sc p0 hp0).1))) (by rw [e22]; exact fr_an.2.2) (by rw [e22]; exact fr_sy.2.2.1)))
        · intro M1 hM1
          obtain ⟨M0, hM0, rfl⟩ := hM1
          have FR0 : fm_FR M0 := FR_hi (hi_tr hi3 hM0) fr_FR
          have FR : fm_FR (fm_put2 M0 629 0 (nI 0).toInt64) := FR0
          exact ⟨nI 0, 1, 30, fun M' => M' = fm_put1 (m_arrive (m_fresh (fm_put1 (fm_put1 (fm_put1 (fm_put1 (fm_put2 M0 629 0 (nI 0).toInt64) 586 0 (nI 0)) 590 0 (nI j)) 591 0 (nI p0)) 592 0 (f (i + 3))) (24 * j + 0) 0) (24 * j + 0) (nI 0) (-1)) 586 4 (nI (0 + 1)), by decide, by decide, by rw [e1, e2]; exact r_launch_go (a := 0) (by decide) FR.1 hj hp0 (by decide) hu FR.2.1 (FR_U FR hj), fun M' h => ⟨by rw [h]; rfl, fun _ => by rw [h]; rfl, trivial⟩⟩
      · refine lw_launch (B := fun _ => True) hc hex hX hxl hxb hlen hi (k := nI 1) (PA := fun M' => M' = fm_M2) (fr1 := 7) (lo1 := 115) (by decide) (by decide) hz ?_ ?_ (fun M' _ => kk M')
        · exact k_launch_x1 (rm0 := { frames := 6, cells := 1, slots := 6, locals := 90 }) (x_launch_bad htr (fun h => hu (wi_of_le h.2.2)))
        · intro M1 hM1
          have FR : fm_FR M1 := by rw [hM1]; exact fr_FR
          exact ⟨nI 0, 1, 22, fun M' => M' = fm_put1 M1 586 0 (nI 1), by decide, by decide, by exact r_launch_bad3 (by decide) FR.1 hv hw hu, fun M' h => ⟨by rw [h]; exact p1_same _ _ _ _, fun g => absurd g (by decide), trivial⟩⟩
    · refine lw_launch (B := fun _ => True) hc hex hX hxl hxb hlen hi (k := nI 1) (PA := fun M' => M' = fm_M2) (fr1 := 7) (lo1 := 115) (by decide) (by decide) hz ?_ ?_ (fun M' _ => kk M')
      · exact k_launch_x1 (rm0 := { frames := 6, cells := 1, slots := 6, locals := 90 }) (x_launch_bad htr (fun h => hw h.2.1))
      · intro M1 hM1
        have FR : fm_FR M1 := by rw [hM1]; exact fr_FR
        exact ⟨nI 0, 1, 22, fun M' => M' = fm_put1 M1 586 0 (nI 1), by decide, by decide, by exact r_launch_bad2 (by decide) FR.1 hv hw, fun M' h => ⟨by rw [h]; exact p1_same _ _ _ _, fun g => absurd g (by decide), trivial⟩⟩
  · refine lw_launch (B := fun _ => True) hc hex hX hxl hxb hlen hi (k := nI 1) (PA := fun M' => M' = fm_M2) (fr1 := 7) (lo1 := 115) (by decide) (by decide) hz ?_ ?_ (fun M' _ => kk M')
    · exact k_launch_x1 (rm0 := { frames := 6, cells := 1, slots := 6, locals := 90 }) (x_launch_bad htr (fun h => hv h.1))
    · intro M1 hM1
      have FR : fm_FR M1 := by rw [hM1]; exact fr_FR
      exact ⟨nI 0, 1, 22, fun M' => M' = fm_put1 M1 586 0 (nI 1), by decide, by decide, by exact r_launch_bad1 (by decide) FR.1 hv, fun M' h => ⟨by rw [h]; exact p1_same _ _ _ _, fun g => absurd g (by decide), trivial⟩⟩
end LWF
