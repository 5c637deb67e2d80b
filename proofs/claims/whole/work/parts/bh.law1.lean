/-! THE LAW'S CASES in any world -/
theorem inN_to {N : Nat} {v : Int32} (hN : N ≤ 1000) (h : fm_in N v) : ∃ k, k < N ∧ v = nI k := by
  obtain ⟨h1, h2⟩ := h
  have h3 : ¬ v.toInt < 0 := fun q => h1 (Int32.lt_iff_toInt_lt.mpr (by
    have : (0 : Int32).toInt = 0 := by decide
    omega))
  have h4 : ¬ (N : Int) ≤ v.toInt := fun q => h2 (Int32.le_iff_toInt_le.mpr (by rw [nI_int (by omega)]; exact q))
  refine ⟨v.toInt.toNat, by omega, ?_⟩
  have h5 : v = Int32.ofInt v.toInt := (Int32.ofInt_toInt v).symm
  have h6 : v.toInt = (v.toInt.toNat : Int) := by omega
  exact h5.trans ((congrArg Int32.ofInt h6).trans (by first | rfl | exact Int32.ofInt_eq_ofNat | simp [nI]))
theorem inN_of {N k : Nat} (hN : N ≤ 1000) (h : k < N) : fm_in N (nI k) := ⟨nI_pos (by omega), hnleB h (by omega)⟩
theorem wi_len {N : Nat} {v : Int32} (hN : N ≤ 1000) (h : ¬ fm_in N v) : ¬ fm_wi v (nI 0) (nI N - nI 1) := fun g => h (by
  have e := pk_sub_toInt (a := N) (b := 1) (by omega) (by decide)
  have g1 : ¬ v.toInt < 0 := fun q => g.1 (Int32.lt_iff_toInt_lt.mpr (by rw [nI_int (by decide)]; exact q))
  have g2 : ¬ (nI N - nI 1).toInt < v.toInt := fun q => g.2 (Int32.lt_iff_toInt_lt.mpr q)
  refine ⟨fun q => g1 (by
    have := Int32.lt_iff_toInt_lt.mp q
    have z : (0 : Int32).toInt = 0 := by decide
    omega), fun q => ?_⟩
  have := Int32.le_iff_toInt_le.mp q
  rw [nI_int (by omega)] at this
  omega)
theorem wi_in {N k : Nat} (hN : N ≤ 1000) (h : k < N) : fm_wi (nI k) (nI 0) (nI N - nI 1) := ⟨nI_pos (by omega), by
  rw [pk_sub (by omega)]
  exact hnltB (by omega) (by omega)⟩
theorem bitc_lo : ∀ c, c < 17 → bitc (bw_lo c) = nI c := by decide +kernel
theorem tsw_out {u : Int32} {n : Nat} (hn : n ≤ 100) (h : ¬ fm_wi u (nI 0) (nI n)) : u.toInt < 0 ∨ (n : Int) < u.toInt := by
  by_cases g : u.toInt < 0
  · exact Or.inl g
  · right
    by_cases g2 : (n : Int) < u.toInt
    · exact g2
    · exact absurd ⟨fun q => g (by
        have := Int32.lt_iff_toInt_lt.mp q
        rw [nI_int (by decide)] at this
        exact this), fun q => g2 (by
        have := Int32.lt_iff_toInt_lt.mp q
        rw [nI_int (by omega)] at this
        exact this)⟩ h
theorem pk_sub_toIntB {a : Nat} (h : a < 2 ^ 31) : (nI a).toInt = (a : Int) := by
  show (Int32.ofNat a).toInt = _
  exact Int32.toInt_ofNat_of_lt h
theorem ten_to {u : Int32} {N : Nat} (hN : N ≤ 500) (h1 : ¬ u < nI 10) (h2 : u - nI 10 < nI N) : ∃ k, k < N ∧ u = nI (10 + k) := by
  have h3 : ¬ u.toInt < 10 := fun q => h1 (Int32.lt_iff_toInt_lt.mpr (by rw [nI_int (by decide)]; exact q))
  have hu : u = nI u.toInt.toNat := by
    have h5 : u = Int32.ofInt u.toInt := (Int32.ofInt_toInt u).symm
    have h6 : u.toInt = (u.toInt.toNat : Int) := by omega
    exact h5.trans ((congrArg Int32.ofInt h6).trans (by first | rfl | exact Int32.ofInt_eq_ofNat | simp [nI]))
  have hlt := Int32.toInt_lt u
  rw [hu, pk_sub (by omega)] at h2
  have h4 := Int32.lt_iff_toInt_lt.mp h2
  have h7 : u.toInt.toNat - 10 < 2 ^ 31 := by omega
  have h8 : (nI (u.toInt.toNat - 10)).toInt = ((u.toInt.toNat - 10 : Nat) : Int) := by
    have q := pk_sub_toIntB (a := u.toInt.toNat - 10) h7
    exact q
  rw [h8, nI_int (by omega)] at h4
  exact ⟨u.toInt.toNat - 10, by omega, by rw [show 10 + (u.toInt.toNat - 10) = u.toInt.toNat by omega]; exact hu⟩
section LWG
variable {p : Program} {l : Launch} {e : Env} {s : State} {m : MethodId} {args : Array Value} {below : List Frame} {meth : Method} {c : Code} {Q : State → Prop}
variable {b : Nat} {x : Nat → Nat} {D : va_G} {dA : Nat → ClassId} {z : Nat × Nat} {f : Nat → Int32} {i len : Nat} {M : fm_M}
theorem g_program (htr : l.stackTraces = false) (hc : fm_Cx p s m args meth c fm_cl b D 7 b_Lw_law "AgentNetLaw" fm_T0 (fm_tys dA)) (hex : fm_EX b x s) (hX : va_X (x 0) len f s s.heap) (hxl : x 0 < s.heap.size) (hxb : x 0 < b) (hlen : len < 2 ^ 31) (hi : i + 5 ≤ len) (hz : z.1 + 0 ≤ room_1.cells ∧ z.2 + 0 ≤ room_1.slots) (hW : w_W M) (kk : ∀ M', w_W M' → fm_G p l e room_1 s m args below meth c Q fm_lay fm_nf fm_fk fm_cl b x D dA 7 1091 [(4, .int (nI i)), (3, .ref 629), (2, .ref 586), (1, .ref 8), (0, .ref 0)] [] 630 M' z) : fm_G p l e room_1 s m args below meth c Q fm_lay fm_nf fm_fk fm_cl b x D dA 7 128 [(4, .int (nI i)), (3, .ref 629), (2, .ref 586), (1, .ref 8), (0, .ref 0)] [] 630 M z := by
  have hWW := hW
  obtain ⟨up, lf, wm, wc, ws, ms, C, W, L, sc, tb, FC, FV, mt, hm, ru, pu, hC, hR, hA⟩ := hW
  by_cases hv : fm_in 4 (f (i + 1))
  · by_cases hw : fm_wi (f (i + 4)) (nI 1) (nI 8)
    · obtain ⟨j, hj, e1⟩ := in4_to hv
      obtain ⟨k, hk1, hk8, e4⟩ := wi_to (a := 1) (b := 8) (by decide) (by decide) hw
      by_cases hL : L = 0
      · by_cases h48 : (sc j).length + k ≤ 48
        · refine lw_program (B := w_W) hc hex hX hxl hxb hlen hi (t := nI ((sc j).length + k)) (PA := fun M' => w_C up lf wm wc ws ms C W L (va_up sc j (sc j ++ app_l (((f (i + 2)).toInt64 <<< ((nI 32).toInt64 &&& 63)) ||| ((f (i + 3)).toInt64 &&& 4294967295)) k)) tb FC FV mt M' ∧ hi_E M M') (fr1 := 1) (lo1 := 24) (by decide) (by decide) hz ?_ ?_ kk
          · rw [e1, e4]; exact wc_program hC hj hk1 hk8 hL h48
          · intro M1 hM1
            exact ⟨1, 22, fun M' => w_R up lf wm wc ws ms C W L (va_up sc j (sc j ++ app_l (((f (i + 2)).toInt64 <<< ((nI 32).toInt64 &&& 63)) ||| ((f (i + 3)).toInt64 &&& 4294967295)) k)) tb hm ru pu M' ∧ lo_E M1 M', by decide, by decide, by rw [e1, e4]; exact wr_program (wR_hi hM1.2 hR) hj hk1 hk8 hL h48, fun M' h => ⟨up, lf, wm, wc, ws, ms, C, W, L, va_up sc j (sc j ++ app_l (((f (i + 2)).toInt64 <<< ((nI 32).toInt64 &&& 63)) ||| ((f (i + 3)).toInt64 &&& 4294967295)) k), tb, FC, FV, mt, hm, ru, pu, wC_lo (fun q a => h.2 q (Or.inl a)) hM1.1, h.1, wA_zero hA hL⟩⟩
        · refine lw_program (B := w_W) hc hex hX hxl hxb hlen hi (t := -1) (PA := fun M' => M' = M) (fr1 := 1) (lo1 := 24) (by decide) (by decide) hz ?_ ?_ kk
          · rw [e1, e4]; exact c_program_full (by decide) hC.1.1 hj hk1 hk8 (by rw [hC.2.2.2.2.2.1, hL]; decide) (hC.2.2.2.2.2.2.1 j hj).1 (hC.2.2.2.2.2.2.1 j hj).2.1 (by omega)
          · intro M1 hM1
            rw [hM1]
            exact ⟨1, 22, _, by decide, by decide, by rw [e1, e4]; exact r_program_full (by decide) hR.1 hj hk1 hk8 (by rw [hR.2.2.2.2.1, hL]; decide) (hR.2.2.2.2.2.1 j hj).1 (hR.2.2.2.2.2.1 j hj).2.1 (by omega), fun M' h => by rw [h]; exact wW_t hWW⟩
      · have hL4 : L ≤ 4 := by obtain ⟨⟨_, _, _, q⟩, -⟩ := hA; exact q.2.2.1.1
        refine lw_program (B := w_W) hc hex hX hxl hxb hlen hi (t := -1) (PA := fun M' => M' = M) (fr1 := 1) (lo1 := 24) (by decide) (by decide) hz ?_ ?_ kk
        · exact c_program_late (by decide) hC.1.1 hv hw.1 hw.2 (by rw [hC.2.2.2.2.2.1]; exact hnleB (c := 0) (by omega) (by omega))
        · intro M1 hM1
          rw [hM1]
          exact ⟨1, 22, _, by decide, by decide, by exact r_program_late (by decide) hR.1 hv hw (by rw [hR.2.2.2.2.1]; exact nI_ltB (a := 0) (by omega) (by omega)), fun M' h => by rw [h]; exact wW_t hWW⟩
    · by_cases g : f (i + 4) < nI 1
      · refine lw_program (B := w_W) hc hex hX hxl hxb hlen hi (t := -1) (PA := fun M' => M' = M) (fr1 := 1) (lo1 := 24) (by decide) (by decide) hz ?_ ?_ kk
        · exact c_program_bad2 (by decide) hC.1.1 hv g
        · intro M1 hM1
          rw [hM1]
          exact ⟨1, 22, _, by decide, by decide, by exact r_program_bad2 (by decide) hR.1 hv hw, fun M' h => by rw [h]; exact wW_t hWW⟩
      · have g2 : nI 8 < f (i + 4) := Classical.byContradiction fun g3 => hw ⟨g, g3⟩
        refine lw_program (B := w_W) hc hex hX hxl hxb hlen hi (t := -1) (PA := fun M' => M' = M) (fr1 := 1) (lo1 := 24) (by decide) (by decide) hz ?_ ?_ kk
        · exact c_program_bad3 (by decide) hC.1.1 hv g g2
        · intro M1 hM1
          rw [hM1]
          exact ⟨1, 22, _, by decide, by decide, by exact r_program_bad2 (by decide) hR.1 hv hw, fun M' h => by rw [h]; exact wW_t hWW⟩
  · refine lw_program (B := w_W) hc hex hX hxl hxb hlen hi (t := -1) (PA := fun M' => M' = M) (fr1 := 1) (lo1 := 24) (by decide) (by decide) hz ?_ ?_ kk
    · exact c_program_bad1 (by decide) hC.1.1 hv
    · intro M1 hM1
      rw [hM1]
      exact ⟨1, 22, _, by decide, by decide, by exact r_program_bad1 (by decide) hR.1 hv, fun M' h => by rw [h]; exact wW_t hWW⟩
theorem g_table (htr : l.stackTraces = false) (hc : fm_Cx p s m args meth c fm_cl b D 7 b_Lw_law "AgentNetLaw" fm_T0 (fm_tys dA)) (hex : fm_EX b x s) (hX : va_X (x 0) len f s s.heap) (hxl : x 0 < s.heap.size) (hxb : x 0 < b) (hlen : len < 2 ^ 31) (hi : i + 5 ≤ len) (hz : z.1 + 0 ≤ room_1.cells ∧ z.2 + 0 ≤ room_1.slots) (hW : w_W M) (kk : ∀ M', w_W M' → fm_G p l e room_1 s m args below meth c Q fm_lay fm_nf fm_fk fm_cl b x D dA 7 1091 [(4, .int (nI i)), (3, .ref 629), (2, .ref 586), (1, .ref 8), (0, .ref 0)] [] 630 M' z) : fm_G p l e room_1 s m args below meth c Q fm_lay fm_nf fm_fk fm_cl b x D dA 7 209 [(4, .int (nI i)), (3, .ref 629), (2, .ref 586), (1, .ref 8), (0, .ref 0)] [] 630 M z := by
  have hWW := hW
  obtain ⟨up, lf, wm, wc, ws, ms, C, W, L, sc, tb, FC, FV, mt, hm, ru, pu, hC, hR, hA⟩ := hW
  by_cases hv : fm_in 4 (f (i + 1))
  · by_cases hw : fm_in 8 (f (i + 2))
    · obtain ⟨j, hj, e1⟩ := in4_to hv
      obtain ⟨k, hk, e2⟩ := in8_to hw
      by_cases hL : L = 0
      · refine lw_table (B := w_W) hc hex hX hxl hxb hlen hi (t := nI 1) (PA := fun M' => w_C up lf wm wc ws ms C W L sc (va_up tb j (va_up (tb j) k (f (i + 3)))) FC FV mt M' ∧ hi_E M M') (fr1 := 1) (lo1 := 20) (by decide) (by decide) hz ?_ ?_ kk
        · rw [e1, e2]; exact wc_table hC hj hk hL
        · intro M1 hM1
          exact ⟨1, 22, fun M' => w_R up lf wm wc ws ms C W L sc (va_up tb j (va_up (tb j) k (f (i + 3)))) hm ru pu M' ∧ lo_E M1 M', by decide, by decide, by rw [e1, e2]; exact wr_table (wR_hi hM1.2 hR) hj hk hL, fun M' h => ⟨up, lf, wm, wc, ws, ms, C, W, L, sc, va_up tb j (va_up (tb j) k (f (i + 3))), FC, FV, mt, hm, ru, pu, wC_lo (fun q a => h.2 q (Or.inl a)) hM1.1, h.1, wA_zero hA hL⟩⟩
      · have hL4 : L ≤ 4 := by obtain ⟨⟨_, _, _, q⟩, -⟩ := hA; exact q.2.2.1.1
        refine lw_table (B := w_W) hc hex hX hxl hxb hlen hi (t := nI 0) (PA := fun M' => M' = M) (fr1 := 1) (lo1 := 20) (by decide) (by decide) hz ?_ ?_ kk
        · rw [e1, e2]; exact c_table_late (by decide) hC.1.1 hj hk (by rw [hC.2.2.2.2.2.1]; exact hnleB (c := 0) (by omega) (by omega))
        · intro M1 hM1
          rw [hM1]
          exact ⟨1, 22, _, by decide, by decide, by rw [e1, e2]; exact r_table_late (by decide) hR.1 hj hk (by rw [hR.2.2.2.2.1]; exact hnleB (c := 0) (by omega) (by omega)), fun M' h => by rw [h]; exact wW_t hWW⟩
    · by_cases g : f (i + 2) < 0
      · refine lw_table (B := w_W) hc hex hX hxl hxb hlen hi (t := nI 0) (PA := fun M' => M' = M) (fr1 := 1) (lo1 := 20) (by decide) (by decide) hz ?_ ?_ kk
        · exact c_table_bad2 (by decide) hC.1.1 hv g
        · intro M1 hM1
          rw [hM1]
          exact ⟨1, 22, _, by decide, by decide, by exact r_table_bad2 (by decide) hR.1 hv hw, fun M' h => by rw [h]; exact wW_t hWW⟩
      · have g2 : nI 8 ≤ f (i + 2) := Classical.byContradiction fun g3 => hw ⟨g, g3⟩
        refine lw_table (B := w_W) hc hex hX hxl hxb hlen hi (t := nI 0) (PA := fun M' => M' = M) (fr1 := 1) (lo1 := 20) (by decide) (by decide) hz ?_ ?_ kk
        · exact c_table_bad3 (by decide) hC.1.1 hv g g2
        · intro M1 hM1
          rw [hM1]
          exact ⟨1, 22, _, by decide, by decide, by exact r_table_bad2 (by decide) hR.1 hv hw, fun M' h => by rw [h]; exact wW_t hWW⟩
  · refine lw_table (B := w_W) hc hex hX hxl hxb hlen hi (t := nI 0) (PA := fun M' => M' = M) (fr1 := 1) (lo1 := 20) (by decide) (by decide) hz ?_ ?_ kk
    · exact c_table_bad1 (by decide) hC.1.1 hv
    · intro M1 hM1
      rw [hM1]
      exact ⟨1, 22, _, by decide, by decide, by exact r_table_bad1 (by decide) hR.1 hv, fun M' h => by rw [h]; exact wW_t hWW⟩
theorem g_slot (htr : l.stackTraces = false) (hc : fm_Cx p s m args meth c fm_cl b D 7 b_Lw_law "AgentNetLaw" fm_T0 (fm_tys dA)) (hex : fm_EX b x s) (hX : va_X (x 0) len f s s.heap) (hxl : x 0 < s.heap.size) (hxb : x 0 < b) (hlen : len < 2 ^ 31) (hi : i + 5 ≤ len) (hz : z.1 + 0 ≤ room_1.cells ∧ z.2 + 0 ≤ room_1.slots) (hW : w_W M) (kk : ∀ M', w_W M' → fm_G p l e room_1 s m args below meth c Q fm_lay fm_nf fm_fk fm_cl b x D dA 7 1091 [(4, .int (nI i)), (3, .ref 629), (2, .ref 586), (1, .ref 8), (0, .ref 0)] [] 630 M' z) : fm_G p l e room_1 s m args below meth c Q fm_lay fm_nf fm_fk fm_cl b x D dA 7 817 [(4, .int (nI i)), (3, .ref 629), (2, .ref 586), (1, .ref 8), (0, .ref 0)] [] 630 M z := by
  have hWW := hW
  obtain ⟨up, lf, wm, wc, ws, ms, C, W, L, sc, tb, FC, FV, mt, hm, ru, pu, hC, hR, hA⟩ := hW
  by_cases hv : fm_in 4 (f (i + 1))
  · by_cases hw : fm_in 8 (f (i + 2))
    · obtain ⟨j, hj, e1⟩ := in4_to hv
      obtain ⟨k, hk, e2⟩ := in8_to hw
      have hu01 := (hA.2.1 j).1
      obtain ⟨pa, pb, pc, hT⟩ := hC.2.1 j hj
      have hT : cw_T j (up j) (lf j) (wm j) (wc j) (ws j) M pa pb pc := hT
      have hRj := hR.2.1 j hj
      have hpa := cwO_M hj hT.1
      have hlo := isM_lo hpa
      rcases (show up j = 0 ∨ up j = 1 by omega) with hu | hu
      · refine lw_slot (B := w_W) hc hex hX hxl hxb hlen hi (t := -1) (PA := fun M' => M' = M) (fr1 := 1) (lo1 := 20) (by decide) (by decide) hz ?_ ?_ kk
        · rw [e1, e2]; exact c_slot_down (by decide) hC.1.1 hj (in8_of hk) (by rw [hT.2.2.2.2.2.2.2.2.2.2.1, hu]; rfl)
        · intro M1 hM1
          rw [hM1]
          exact ⟨1, 22, _, by decide, by decide, by rw [e1, e2]; exact r_slot_down (by decide) hR.1 hj (in8_of hk) (by rw [hRj.1, hu]; rfl), fun M' h => by rw [h]; exact wW_t hWW⟩
      · refine lw_slot (B := w_W) hc hex hX hxl hxb hlen hi (t := nI ((wm j).1 k)) (PA := fun M' => M' = M) (fr1 := 1) (lo1 := 20) (by decide) (by decide) hz ?_ ?_ kk
        · rw [e1, e2]; have h9 := c_slot_ok (l := l) (b := b) (x := x) (D := D) (dA := dA) (n := 630) (by decide) hC.1.1 hj hk (cwT_u hT hu) hT.2.2.2.2.2.2.1 (by omega) (by omega) (ly_M0 hpa) (hC.1.2.2.2.2 pa hpa).1 (by omega) (by omega) (ly_M hpa (k := 1) (by omega)); rw [(hT.2.2.2.2.2.2.2.2.2.2.2.2.1 hu).1 k hk] at h9; exact h9
        · intro M1 hM1
          rw [hM1]
          exact ⟨1, 22, _, by decide, by decide, by rw [e1, e2]; have h9 := r_slot_ok (l := l) (b := b) (x := x) (D := D) (dA := dA) (n := 630) (by decide) hR.1 hj hk (rfS_u hRj hu); rw [(hRj.2.2.1 hu).1 k hk] at h9; exact h9, fun M' h => by rw [h]; exact wW_t hWW⟩
    · refine lw_slot (B := w_W) hc hex hX hxl hxb hlen hi (t := -1) (PA := fun M' => M' = M) (fr1 := 1) (lo1 := 20) (by decide) (by decide) hz ?_ ?_ kk
      · exact c_slot_bad2 (by decide) hC.1.1 hv hw
      · intro M1 hM1
        rw [hM1]
        exact ⟨1, 22, _, by decide, by decide, by exact r_slot_bad2 (by decide) hR.1 hv hw, fun M' h => by rw [h]; exact wW_t hWW⟩
  · refine lw_slot (B := w_W) hc hex hX hxl hxb hlen hi (t := -1) (PA := fun M' => M' = M) (fr1 := 1) (lo1 := 20) (by decide) (by decide) hz ?_ ?_ kk
    · exact c_slot_bad1 (by decide) hC.1.1 hv
    · intro M1 hM1
      rw [hM1]
      exact ⟨1, 22, _, by decide, by decide, by exact r_slot_bad1 (by decide) hR.1 hv, fun M' h => by rw [h]; exact wW_t hWW⟩
theorem g_agent (htr : l.stackTraces = false) (hc : fm_Cx p s m args meth c fm_cl b D 7 b_Lw_law "AgentNetLaw" fm_T0 (fm_tys dA)) (hex : fm_EX b x s) (hX : va_X (x 0) len f s s.heap) (hxl : x 0 < s.heap.size) (hxb : x 0 < b) (hlen : len < 2 ^ 31) (hi : i + 5 ≤ len) (hz : z.1 + 0 ≤ room_1.cells ∧ z.2 + 0 ≤ room_1.slots) (hW : w_W M) (kk : ∀ M', w_W M' → fm_G p l e room_1 s m args below meth c Q fm_lay fm_nf fm_fk fm_cl b x D dA 7 1091 [(4, .int (nI i)), (3, .ref 629), (2, .ref 586), (1, .ref 8), (0, .ref 0)] [] 630 M' z) : fm_G p l e room_1 s m args below meth c Q fm_lay fm_nf fm_fk fm_cl b x D dA 7 854 [(4, .int (nI i)), (3, .ref 629), (2, .ref 586), (1, .ref 8), (0, .ref 0)] [] 630 M z := by
  have hWW := hW
  obtain ⟨up, lf, wm, wc, ws, ms, C, W, L, sc, tb, FC, FV, mt, hm, ru, pu, hC, hR, hA⟩ := hW
  by_cases hv : fm_in 4 (f (i + 1))
  · by_cases hw : fm_in 8 (f (i + 2))
    · obtain ⟨j, hj, e1⟩ := in4_to hv
      obtain ⟨k, hk, e2⟩ := in8_to hw
      have hu01 := (hA.2.1 j).1
      obtain ⟨pa, pb, pc, hT⟩ := hC.2.1 j hj
      have hT : cw_T j (up j) (lf j) (wm j) (wc j) (ws j) M pa pb pc := hT
      have hRj := hR.2.1 j hj
      have hpa := cwO_M hj hT.1
      have hlo := isM_lo hpa
      rcases (show up j = 0 ∨ up j = 1 by omega) with hu | hu
      · refine lw_agent (B := w_W) hc hex hX hxl hxb hlen hi (t := -1) (PA := fun M' => M' = M) (fr1 := 1) (lo1 := 20) (by decide) (by decide) hz ?_ ?_ kk
        · rw [e1, e2]; exact c_agent_down (by decide) hC.1.1 hj (in8_of hk) (by rw [hT.2.2.2.2.2.2.2.2.2.2.1, hu]; rfl)
        · intro M1 hM1
          rw [hM1]
          exact ⟨1, 22, _, by decide, by decide, by rw [e1, e2]; exact r_agent_down (by decide) hR.1 hj (in8_of hk) (by rw [hRj.1, hu]; rfl), fun M' h => by rw [h]; exact wW_t hWW⟩
      · have hcm := (hT.2.2.2.2.2.2.2.2.2.2.2.2.1 hu)
        have hrm := hRj.2.2.1 hu
        have hwf := (wA_wf hA j).1
        revert hcm hrm hwf
        rcases wm j with ⟨S, K, O, T, G, H, V, Dd⟩
        intro hcm hrm hwf
        by_cases h0 : S k = 0
        · refine lw_agent (B := w_W) hc hex hX hxl hxb hlen hi (t := -1) (PA := fun M' => M' = M) (fr1 := 1) (lo1 := 20) (by decide) (by decide) hz ?_ ?_ kk
          · rw [e1, e2]; exact c_agent_none (by decide) hC.1.1 hj hk (cwT_u hT hu) hT.2.2.2.2.2.2.1 (by omega) (by omega) (ly_M0 hpa) (hC.1.2.2.2.2 pa hpa).1 (by omega) (by omega) (ly_M hpa (k := 1) (by omega)) ((hcm.1 k hk).trans (congrArg nI h0))
          · intro M1 hM1
            rw [hM1]
            exact ⟨1, 22, _, by decide, by decide, by rw [e1, e2]; exact r_agent_none (by decide) hR.1 hj hk (rfS_u hRj hu) ((hrm.1 k hk).trans (congrArg nI h0)), fun M' h => by rw [h]; exact wW_t hWW⟩
        · have hs4 : S k ≤ 4 := hwf.1 k hk
          have hwk := hwf.2 k hk h0
          have hck := hcm.2.2.2.2.2.2 k hk h0
          obtain ⟨g0, hgk⟩ := hrm.2.2.2.2.2.2.2.2 k hk h0
          have hTr := isM_trL (n := 630) (a := k) hpa hk (by decide)
          have hTP := isM_trP (a := k) (hC.1.2.2.2.2 pa hpa) hk
          by_cases h6 : fm_wi (f (i + 3)) (nI 0) (nI 6)
          · obtain ⟨w, -, w6, e3⟩ := wi_to (a := 0) (b := 6) (by decide) (by decide) h6
            rcases (show w = 0 ∨ w = 1 ∨ w = 2 ∨ w = 3 ∨ w = 4 ∨ w = 5 ∨ w = 6 by omega) with rfl | rfl | rfl | rfl | rfl | rfl | rfl
            · refine lw_agent (B := w_W) hc hex hX hxl hxb hlen hi (t := nI ((G k).1 2)) (PA := fun M' => M' = M) (fr1 := 2) (lo1 := 60) (by decide) (by decide) hz ?_ ?_ kk
              · rw [e1, e2, e3]; exact c_agent_ok (by decide) hC.1.1 hj hk (cwT_u hT hu) hpa hT.2.2.2.2.2.2.1 (hC.1.2.2.2.2 pa hpa) (hcm.1 k hk) hs4 h0 (t_tr_0 hTr hTP hck hwk.1)
              · intro M1 hM1
                rw [hM1]
                exact ⟨3, 70, _, by decide, by decide, by rw [e1, e2, e3]; exact r_agt_0 (by decide) hR.1 hj hk (rfS_u hRj hu) (hrm.1 k hk) hs4 h0 hgk hwk.1, fun M' h => by rw [h]; exact wW_t hWW⟩
            · refine lw_agent (B := w_W) hc hex hX hxl hxb hlen hi (t := nI ((G k).1 4)) (PA := fun M' => M' = M) (fr1 := 2) (lo1 := 60) (by decide) (by decide) hz ?_ ?_ kk
              · rw [e1, e2, e3]; exact c_agent_ok (by decide) hC.1.1 hj hk (cwT_u hT hu) hpa hT.2.2.2.2.2.2.1 (hC.1.2.2.2.2 pa hpa) (hcm.1 k hk) hs4 h0 (t_tr_1 hTr hTP hck hwk.1)
              · intro M1 hM1
                rw [hM1]
                exact ⟨3, 70, _, by decide, by decide, by rw [e1, e2, e3]; exact r_agt_1 (by decide) hR.1 hj hk (rfS_u hRj hu) (hrm.1 k hk) hs4 h0 hgk hwk.1, fun M' h => by rw [h]; exact wW_t hWW⟩
            · refine lw_agent (B := w_W) hc hex hX hxl hxb hlen hi (t := nI ((G k).1 3)) (PA := fun M' => M' = M) (fr1 := 2) (lo1 := 60) (by decide) (by decide) hz ?_ ?_ kk
              · rw [e1, e2, e3]; exact c_agent_ok (by decide) hC.1.1 hj hk (cwT_u hT hu) hpa hT.2.2.2.2.2.2.1 (hC.1.2.2.2.2 pa hpa) (hcm.1 k hk) hs4 h0 (t_tr_2 hTr hTP hck hwk.1)
              · intro M1 hM1
                rw [hM1]
                exact ⟨3, 70, _, by decide, by decide, by rw [e1, e2, e3]; exact r_agt_2 (by decide) hR.1 hj hk (rfS_u hRj hu) (hrm.1 k hk) hs4 h0 hgk hwk.1, fun M' h => by rw [h]; exact wW_t hWW⟩
            · refine lw_agent (B := w_W) hc hex hX hxl hxb hlen hi (t := nI ((G k).1 5)) (PA := fun M' => M' = M) (fr1 := 2) (lo1 := 60) (by decide) (by decide) hz ?_ ?_ kk
              · rw [e1, e2, e3]; exact c_agent_ok (by decide) hC.1.1 hj hk (cwT_u hT hu) hpa hT.2.2.2.2.2.2.1 (hC.1.2.2.2.2 pa hpa) (hcm.1 k hk) hs4 h0 (t_tr_3 hTr hTP hck hwk.1)
              · intro M1 hM1
                rw [hM1]
                exact ⟨3, 70, _, by decide, by decide, by rw [e1, e2, e3]; exact r_agt_3 (by decide) hR.1 hj hk (rfS_u hRj hu) (hrm.1 k hk) hs4 h0 hgk hwk.1, fun M' h => by rw [h]; exact wW_t hWW⟩
            · refine lw_agent (B := w_W) hc hex hX hxl hxb hlen hi (t := nI ((G k).1 6)) (PA := fun M' => M' = M) (fr1 := 2) (lo1 := 60) (by decide) (by decide) hz ?_ ?_ kk
              · rw [e1, e2, e3]; exact c_agent_ok (by decide) hC.1.1 hj hk (cwT_u hT hu) hpa hT.2.2.2.2.2.2.1 (hC.1.2.2.2.2 pa hpa) (hcm.1 k hk) hs4 h0 (t_tr_4 hTr hTP hck hwk.1)
              · intro M1 hM1
                rw [hM1]
                exact ⟨3, 70, _, by decide, by decide, by rw [e1, e2, e3]; exact r_agt_4 (by decide) hR.1 hj hk (rfS_u hRj hu) (hrm.1 k hk) hs4 h0 hgk hwk.1, fun M' h => by rw [h]; exact wW_t hWW⟩
            · refine lw_agent (B := w_W) hc hex hX hxl hxb hlen hi (t := nI (G k).2.1.length) (PA := fun M' => M' = M) (fr1 := 2) (lo1 := 60) (by decide) (by decide) hz ?_ ?_ kk
              · rw [e1, e2, e3]; exact c_agent_ok (by decide) hC.1.1 hj hk (cwT_u hT hu) hpa hT.2.2.2.2.2.2.1 (hC.1.2.2.2.2 pa hpa) (hcm.1 k hk) hs4 h0 (t_tr_5 hTr hTP hck hwk.1)
              · intro M1 hM1
                rw [hM1]
                exact ⟨3, 70, _, by decide, by decide, by rw [e1, e2, e3]; exact r_agt_5 (by decide) hR.1 hj hk (rfS_u hRj hu) (hrm.1 k hk) hs4 h0 hgk hwk.1, fun M' h => by rw [h]; exact wW_t hWW⟩
            · refine lw_agent (B := w_W) hc hex hX hxl hxb hlen hi (t := nI (G k).2.2.length) (PA := fun M' => M' = M) (fr1 := 2) (lo1 := 60) (by decide) (by decide) hz ?_ ?_ kk
              · rw [e1, e2, e3]; exact c_agent_ok (by decide) hC.1.1 hj hk (cwT_u hT hu) hpa hT.2.2.2.2.2.2.1 (hC.1.2.2.2.2 pa hpa) (hcm.1 k hk) hs4 h0 (t_tr_6 hTr hTP hck hwk.1)
              · intro M1 hM1
                rw [hM1]
                exact ⟨3, 70, _, by decide, by decide, by rw [e1, e2, e3]; exact r_agt_6 (by decide) hR.1 hj hk (rfS_u hRj hu) (hrm.1 k hk) hs4 h0 hgk hwk.1 hwk.2.1, fun M' h => wW_K h (wW_t hWW)⟩
          · have hout := tsw_out (n := 6) (by decide) h6
            by_cases h10 : f (i + 3) < nI 10
            · refine lw_agent (B := w_W) hc hex hX hxl hxb hlen hi (t := -1) (PA := fun M' => M' = M) (fr1 := 2) (lo1 := 60) (by decide) (by decide) hz ?_ ?_ kk
              · rw [e1, e2]; exact c_agent_ok (by decide) hC.1.1 hj hk (cwT_u hT hu) hpa hT.2.2.2.2.2.2.1 (hC.1.2.2.2.2 pa hpa) (hcm.1 k hk) hs4 h0 (t_tr_lo hTr hTP hck hwk.1 hout h10)
              · intro M1 hM1
                rw [hM1]
                exact ⟨3, 70, _, by decide, by decide, by rw [e1, e2]; exact r_agt_lo (by decide) hR.1 hj hk (rfS_u hRj hu) (hrm.1 k hk) hs4 h0 hgk hwk.1 hout h10, fun M' h => by rw [h]; exact wW_t hWW⟩
            · have hl6 := hwk.1.1
              by_cases hlt : f (i + 3) - nI 10 < nI (G k).2.1.length
              · obtain ⟨w, w1, e3⟩ := ten_to (by omega) h10 hlt
                obtain ⟨v, hv1⟩ : ∃ v, (G k).2.1[w]? = some v := ⟨_, List.getElem?_eq_getElem w1⟩
                rcases v with y | y
                · refine lw_agent (B := w_W) hc hex hX hxl hxb hlen hi (t := nI 0) (PA := fun M' => M' = M) (fr1 := 2) (lo1 := 60) (by decide) (by decide) hz ?_ ?_ kk
                  · rw [e1, e2, e3]; exact c_agent_ok (by decide) hC.1.1 hj hk (cwT_u hT hu) hpa hT.2.2.2.2.2.2.1 (hC.1.2.2.2.2 pa hpa) (hcm.1 k hk) hs4 h0 (t_tr_i hTr hTP hck hwk.1 hv1)
                  · intro M1 hM1
                    rw [hM1]
                    exact ⟨3, 70, _, by decide, by decide, by rw [e1, e2, e3]; exact r_agt_i (by decide) hR.1 hj hk (rfS_u hRj hu) (hrm.1 k hk) hs4 h0 hgk hwk.1 hv1, fun M' h => by rw [h]; exact wW_t hWW⟩
                · refine lw_agent (B := w_W) hc hex hX hxl hxb hlen hi (t := nI 1) (PA := fun M' => M' = M) (fr1 := 2) (lo1 := 60) (by decide) (by decide) hz ?_ ?_ kk
                  · rw [e1, e2, e3]; exact c_agent_ok (by decide) hC.1.1 hj hk (cwT_u hT hu) hpa hT.2.2.2.2.2.2.1 (hC.1.2.2.2.2 pa hpa) (hcm.1 k hk) hs4 h0 (t_tr_p hTr hTP hck hwk.1 hv1)
                  · intro M1 hM1
                    rw [hM1]
                    exact ⟨3, 70, _, by decide, by decide, by rw [e1, e2, e3]; exact r_agt_p (by decide) hR.1 hj hk (rfS_u hRj hu) (hrm.1 k hk) hs4 h0 hgk hwk.1 hv1, fun M' h => by rw [h]; exact wW_t hWW⟩
              · refine lw_agent (B := w_W) hc hex hX hxl hxb hlen hi (t := -1) (PA := fun M' => M' = M) (fr1 := 2) (lo1 := 60) (by decide) (by decide) hz ?_ ?_ kk
                · rw [e1, e2]; exact c_agent_ok (by decide) hC.1.1 hj hk (cwT_u hT hu) hpa hT.2.2.2.2.2.2.1 (hC.1.2.2.2.2 pa hpa) (hcm.1 k hk) hs4 h0 (t_tr_hi hTr hTP hck hwk.1 hout h10 hlt)
                · intro M1 hM1
                  rw [hM1]
                  exact ⟨3, 70, _, by decide, by decide, by rw [e1, e2]; exact r_agt_hi (by decide) hR.1 hj hk (rfS_u hRj hu) (hrm.1 k hk) hs4 h0 hgk hwk.1 hout h10 hlt, fun M' h => by rw [h]; exact wW_t hWW⟩
    · refine lw_agent (B := w_W) hc hex hX hxl hxb hlen hi (t := -1) (PA := fun M' => M' = M) (fr1 := 1) (lo1 := 20) (by decide) (by decide) hz ?_ ?_ kk
      · exact c_agent_bad2 (by decide) hC.1.1 hv hw
      · intro M1 hM1
        rw [hM1]
        exact ⟨1, 22, _, by decide, by decide, by exact r_agent_bad2 (by decide) hR.1 hv hw, fun M' h => by rw [h]; exact wW_t hWW⟩
  · refine lw_agent (B := w_W) hc hex hX hxl hxb hlen hi (t := -1) (PA := fun M' => M' = M) (fr1 := 1) (lo1 := 20) (by decide) (by decide) hz ?_ ?_ kk
    · exact c_agent_bad1 (by decide) hC.1.1 hv
    · intro M1 hM1
      rw [hM1]
      exact ⟨1, 22, _, by decide, by decide, by exact r_agent_bad1 (by decide) hR.1 hv, fun M' h => by rw [h]; exact wW_t hWW⟩
theorem g_message (htr : l.stackTraces = false) (hc : fm_Cx p s m args meth c fm_cl b D 7 b_Lw_law "AgentNetLaw" fm_T0 (fm_tys dA)) (hex : fm_EX b x s) (hX : va_X (x 0) len f s s.heap) (hxl : x 0 < s.heap.size) (hxb : x 0 < b) (hlen : len < 2 ^ 31) (hi : i + 5 ≤ len) (hz : z.1 + 0 ≤ room_1.cells ∧ z.2 + 0 ≤ room_1.slots) (hW : w_W M) (kk : ∀ M', w_W M' → fm_G p l e room_1 s m args below meth c Q fm_lay fm_nf fm_fk fm_cl b x D dA 7 1091 [(4, .int (nI i)), (3, .ref 629), (2, .ref 586), (1, .ref 8), (0, .ref 0)] [] 630 M' z) : fm_G p l e room_1 s m args below meth c Q fm_lay fm_nf fm_fk fm_cl b x D dA 7 780 [(4, .int (nI i)), (3, .ref 629), (2, .ref 586), (1, .ref 8), (0, .ref 0)] [] 630 M z := by
  have hWW := hW
  obtain ⟨up, lf, wm, wc, ws, ms, C, W, L, sc, tb, FC, FV, mt, hm, ru, pu, hC, hR, hA⟩ := hW
  obtain ⟨w, hpw, hw⟩ := hC.2.2.1
  by_cases hv : fm_in ms.length (f (i + 1))
  · obtain ⟨k, hk, e1⟩ := inN_to (by have := hw.2.1; omega) hv
    obtain ⟨m0, hm0⟩ : ∃ m0, ms[k]? = some m0 := ⟨_, List.getElem?_eq_getElem hk⟩
    have hl20 := hw.2.1
    have hb := wA_ms hA m0 (List.mem_of_getElem? hm0)
    have hcg := hw.2.2 k m0 hm0
    have hrg := hR.2.2.1.2.2 k m0 hm0
    have hwk := hpw.2.2.2.1 k (by omega)
    have h7 := hpw.2.2.2.2.2 (w k) hwk
    have hml := ms_of (n := 630) (by decide) hwk
    have hbl := hb.1.2.1
    by_cases h5 : fm_wi (f (i + 2)) (nI 0) (nI 5)
    · obtain ⟨q, -, q5, e2⟩ := wi_to (a := 0) (b := 5) (by decide) (by decide) h5
      rcases (show q = 0 ∨ q = 1 ∨ q = 2 ∨ q = 3 ∨ q = 4 ∨ q = 5 by omega) with rfl | rfl | rfl | rfl | rfl | rfl
      · rcases (show m0.1 = 0 ∨ m0.1 = 1 by have := hb.1.1; omega) with h0 | h0
        · refine lw_message (B := w_W) hc hex hX hxl hxb hlen hi (t := nI m0.1) (PA := fun M' => M' = M) (fr1 := 1) (lo1 := 22) (by decide) (by decide) hz ?_ ?_ kk
          · rw [e1, e2]; exact c_message_ok (by decide) hC.1.1 hpw hw.1 hl20 hk (t_msg_0a hml h7 hcg hb.1 h0)
          · intro M1 hM1
            rw [hM1]
            exact ⟨1, 22, _, by decide, by decide, by rw [e1, e2]; exact r_msg_0a (by decide) hR.1 hR.2.2.1.1 hl20 hk hrg hb.1 h0, fun M' h => by rw [h]; exact wW_t hWW⟩
        · refine lw_message (B := w_W) hc hex hX hxl hxb hlen hi (t := nI m0.1) (PA := fun M' => M' = M) (fr1 := 1) (lo1 := 22) (by decide) (by decide) hz ?_ ?_ kk
          · rw [e1, e2]; exact c_message_ok (by decide) hC.1.1 hpw hw.1 hl20 hk (t_msg_0b hml h7 hcg hb.1 h0)
          · intro M1 hM1
            rw [hM1]
            exact ⟨1, 22, _, by decide, by decide, by rw [e1, e2]; exact r_msg_0b (by decide) hR.1 hR.2.2.1.1 hl20 hk hrg hb.1 h0, fun M' h => by rw [h]; exact wW_t hWW⟩
      · refine lw_message (B := w_W) hc hex hX hxl hxb hlen hi (t := nI m0.2.1) (PA := fun M' => M' = M) (fr1 := 1) (lo1 := 22) (by decide) (by decide) hz ?_ ?_ kk
        · rw [e1, e2]; exact c_message_ok (by decide) hC.1.1 hpw hw.1 hl20 hk (t_msg_1 hml h7 hcg hb.1)
        · intro M1 hM1
          rw [hM1]
          exact ⟨1, 22, _, by decide, by decide, by rw [e1, e2]; exact r_msg_1 (by decide) hR.1 hR.2.2.1.1 hl20 hk hrg hb.1, fun M' h => by rw [h]; exact wW_t hWW⟩
      · refine lw_message (B := w_W) hc hex hX hxl hxb hlen hi (t := m0.2.2.1) (PA := fun M' => M' = M) (fr1 := 1) (lo1 := 22) (by decide) (by decide) hz ?_ ?_ kk
        · rw [e1, e2]; exact c_message_ok (by decide) hC.1.1 hpw hw.1 hl20 hk (t_msg_2 hml h7 hcg hb.1)
        · intro M1 hM1
          rw [hM1]
          exact ⟨1, 22, _, by decide, by decide, by rw [e1, e2]; exact r_msg_2 (by decide) hR.1 hR.2.2.1.1 hl20 hk hrg hb.1, fun M' h => by rw [h]; exact wW_t hWW⟩
      · refine lw_message (B := w_W) hc hex hX hxl hxb hlen hi (t := m0.2.2.2.1) (PA := fun M' => M' = M) (fr1 := 1) (lo1 := 22) (by decide) (by decide) hz ?_ ?_ kk
        · rw [e1, e2]; exact c_message_ok (by decide) hC.1.1 hpw hw.1 hl20 hk (t_msg_3 hml h7 hcg hb.1)
        · intro M1 hM1
          rw [hM1]
          exact ⟨1, 22, _, by decide, by decide, by rw [e1, e2]; exact r_msg_3 (by decide) hR.1 hR.2.2.1.1 hl20 hk hrg hb.1, fun M' h => by rw [h]; exact wW_t hWW⟩
      · refine lw_message (B := w_W) hc hex hX hxl hxb hlen hi (t := m0.2.2.2.2.1) (PA := fun M' => M' = M) (fr1 := 1) (lo1 := 22) (by decide) (by decide) hz ?_ ?_ kk
        · rw [e1, e2]; exact c_message_ok (by decide) hC.1.1 hpw hw.1 hl20 hk (t_msg_4 hml h7 hcg hb.1)
        · intro M1 hM1
          rw [hM1]
          exact ⟨1, 22, _, by decide, by decide, by rw [e1, e2]; exact r_msg_4 (by decide) hR.1 hR.2.2.1.1 hl20 hk hrg hb.1, fun M' h => by rw [h]; exact wW_t hWW⟩
      · refine lw_message (B := w_W) hc hex hX hxl hxb hlen hi (t := nI m0.2.2.2.2.2.length) (PA := fun M' => M' = M) (fr1 := 1) (lo1 := 22) (by decide) (by decide) hz ?_ ?_ kk
        · rw [e1, e2]; exact c_message_ok (by decide) hC.1.1 hpw hw.1 hl20 hk (t_msg_5 hml h7 hcg hb.1)
        · intro M1 hM1
          rw [hM1]
          exact ⟨1, 22, _, by decide, by decide, by rw [e1, e2]; exact r_msg_5 (by decide) hR.1 hR.2.2.1.1 hl20 hk hrg hb.1, fun M' h => by rw [h]; exact wW_t hWW⟩
    · have hout := tsw_out (n := 5) (by decide) h5
      by_cases h10 : f (i + 2) < nI 10
      · refine lw_message (B := w_W) hc hex hX hxl hxb hlen hi (t := -1) (PA := fun M' => M' = M) (fr1 := 1) (lo1 := 22) (by decide) (by decide) hz ?_ ?_ kk
        · rw [e1]; exact c_message_ok (by decide) hC.1.1 hpw hw.1 hl20 hk (t_msg_lo hml h7 hcg hb.1 hout h10)
        · intro M1 hM1
          rw [hM1]
          exact ⟨1, 22, _, by decide, by decide, by rw [e1]; exact r_msg_lo (by decide) hR.1 hR.2.2.1.1 hl20 hk hrg hb.1 hout h10, fun M' h => by rw [h]; exact wW_t hWW⟩
      · by_cases hlt : f (i + 2) - nI 10 < nI m0.2.2.2.2.2.length
        · obtain ⟨q, q1, e2⟩ := ten_to (by omega) h10 hlt
          obtain ⟨v, hv1⟩ : ∃ v, m0.2.2.2.2.2[q]? = some v := ⟨_, List.getElem?_eq_getElem q1⟩
          refine lw_message (B := w_W) hc hex hX hxl hxb hlen hi (t := nI v) (PA := fun M' => M' = M) (fr1 := 1) (lo1 := 22) (by decide) (by decide) hz ?_ ?_ kk
          · rw [e1, e2]; exact c_message_ok (by decide) hC.1.1 hpw hw.1 hl20 hk (t_msg_k hml h7 hcg hb.1 hv1)
          · intro M1 hM1
            rw [hM1]
            exact ⟨1, 22, _, by decide, by decide, by rw [e1, e2]; exact r_msg_k (by decide) hR.1 hR.2.2.1.1 hl20 hk hrg hb.1 hv1, fun M' h => by rw [h]; exact wW_t hWW⟩
        · refine lw_message (B := w_W) hc hex hX hxl hxb hlen hi (t := -1) (PA := fun M' => M' = M) (fr1 := 1) (lo1 := 22) (by decide) (by decide) hz ?_ ?_ kk
          · rw [e1]; exact c_message_ok (by decide) hC.1.1 hpw hw.1 hl20 hk (t_msg_hi hml h7 hcg hb.1 hout h10 (Int32.not_lt.mp hlt))
          · intro M1 hM1
            rw [hM1]
            exact ⟨1, 22, _, by decide, by decide, by rw [e1]; exact r_msg_hi (by decide) hR.1 hR.2.2.1.1 hl20 hk hrg hb.1 hout h10 (Int32.not_lt.mp hlt), fun M' h => by rw [h]; exact wW_t hWW⟩
  · refine lw_message (B := w_W) hc hex hX hxl hxb hlen hi (t := -1) (PA := fun M' => M' = M) (fr1 := 1) (lo1 := 21) (by decide) (by decide) hz ?_ ?_ kk
    · exact c_message_out (by decide) hC.1.1 (by rw [hw.1]; exact hv)
    · intro M1 hM1
      rw [hM1]
      exact ⟨1, 22, _, by decide, by decide, by exact r_message_out (by decide) hR.1 (by rw [hR.2.2.1.1]; exact wi_len (by have := hw.2.1; omega) hv), fun M' h => by rw [h]; exact wW_t hWW⟩
end LWG
