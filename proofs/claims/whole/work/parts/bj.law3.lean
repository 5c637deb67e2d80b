/-! THE LAW'S CASES in any world: the calls that may throw -/
section LWJ
variable {p : Program} {l : Launch} {e : Env} {s : State} {m : MethodId} {args : Array Value} {below : List Frame} {meth : Method} {c : Code} {Q : State → Prop}
variable {b : Nat} {x : Nat → Nat} {D : va_G} {dA : Nat → ClassId} {z : Nat × Nat} {f : Nat → Int32} {i len : Nat} {M : fm_M}
theorem g_step (htr : l.stackTraces = false) (hc : fm_Cx p s m args meth c fm_cl b D 7 b_Lw_law "AgentNetLaw" fm_T0 (fm_tys dA)) (hex : fm_EX b x s) (hX : va_X (x 0) len f s s.heap) (hxl : x 0 < s.heap.size) (hxb : x 0 < b) (hlen : len < 2 ^ 31) (hi : i + 5 ≤ len) (hz : z.1 + 1 ≤ room_1.cells ∧ z.2 + 6 ≤ room_1.slots) (hW : w_W M) (kk : ∀ M', w_W M' → fm_G p l e room_1 s m args below meth c Q fm_lay fm_nf fm_fk fm_cl b x D dA 7 1091 [(4, .int (nI i)), (3, .ref 629), (2, .ref 586), (1, .ref 8), (0, .ref 0)] [] 630 M' (z.1 + 1, z.2 + 6)) : fm_G p l e room_1 s m args below meth c Q fm_lay fm_nf fm_fk fm_cl b x D dA 7 338 [(4, .int (nI i)), (3, .ref 629), (2, .ref 586), (1, .ref 8), (0, .ref 0)] [] 630 M z := by
  have hWW := hW
  obtain ⟨up, lf, wm, wc, ws, ms, C, W, L, sc, tb, FC, FV, mt, hm, ru, pu, hC, hR, hA⟩ := hW
  by_cases hv : fm_in 4 (f (i + 1))
  · by_cases hw : fm_wi (f (i + 2)) (nI 1) (nI 40)
    · obtain ⟨j, hj, e1⟩ := in4_to hv
      have hu01 := (hA.2.1 j).1
      obtain ⟨pa, pb, pc, hT⟩ := hC.2.1 j hj
      have hT : cw_T j (up j) (lf j) (wm j) (wc j) (ws j) M pa pb pc := hT
      have hRj := hR.2.1 j hj
      have hpa := cwO_M hj hT.1
      have hlo := isM_lo hpa
      rcases (show up j = 0 ∨ up j = 1 by omega) with hu | hu
      · refine lw_step (B := w_W) hc hex hX hxl hxb hlen hi (k := nI 2) (PA := fun M' => M' = M) (fr1 := 7) (lo1 := 114) (by decide) (by decide) hz ?_ ?_ kk
        · rw [e1]; exact k_step_x2 (rm0 := { frames := 6, cells := 1, slots := 6, locals := 90 }) (x_step_down htr hj (by decide) hC.1.1 (le_of_wi hw) (by rw [hT.2.2.2.2.2.2.2.2.2.2.1, hu]; rfl))
        · intro M1 hM1
          rw [hM1]
          exact ⟨nI 0, 2, 44, fun M' => M' = fm_put1 M 586 0 (nI 2), by decide, by decide, by rw [e1]; exact r_step_down (by decide) hR.1 hj hw (by rw [hRj.1, hu]; rfl), fun M' h => ⟨by rw [h]; exact p1_same _ _ _ _, fun g => absurd g (by decide), by rw [h]; exact wW_t hWW⟩⟩
      · obtain ⟨k, hk1, hk40, e2⟩ := wi_to (a := 1) (b := 40) (by decide) (by decide) hw
        have hsb : ∀ q, q < 4 → ∀ i v : Nat, (sc q)[i]? = some v → v < 256 := fun q hq i v hv => ((hC.2.2.2.2.2.2.1 q hq).2.2.2 i v hv).2
        have hsl : ∀ q, q < 4 → (sc q).length ≤ 48 := fun q hq => (hC.2.2.2.2.2.2.1 q hq).2.1
        refine lw_step (B := w_W) hc hex hX hxl hxb hlen hi (k := nI 0) (PA := fun M' => ∃ M1, (w_C up lf (va_up wm j (am_rounds sc (tb j) j k (wm j))) wc ws ms C W L sc tb FC FV mt M1 ∧ hi_E M M1) ∧ M' = fm_put2 M1 629 0 (nI (am_done sc (tb j) j k (wm j))).toInt64) (fr1 := 11) (lo1 := 424) (by decide) (by decide) hz ?_ ?_ kk
        · rw [e1, e2]; exact k_step_ok (rm0 := { frames := 10, cells := 1, slots := 6, locals := 400 }) (PM := fun M' => w_C up lf (va_up wm j (am_rounds sc (tb j) j k (wm j))) wc ws ms C W L sc tb FC FV mt M' ∧ hi_E M M') (wc_step htr hC hj hu (wA_W hA j) hk1 hk40)
        · intro M1 hM1
          obtain ⟨M0, ⟨hc0, he0⟩, rfl⟩ := hM1
          have hR1 : w_R up lf wm wc ws ms C W L sc tb hm ru pu (fm_put2 M0 629 0 (nI (am_done sc (tb j) j k (wm j))).toInt64) := wR_hi (hiE_tr he0 put2_E.2) hR
          exact ⟨nI (am_done sc (tb j) j k (wm j)), 8, 250, fun M' => w_R up lf (va_up wm j (am_rounds sc (tb j) j k (wm j))) wc ws ms C W L sc tb hm ru pu M' ∧ lo_E (fm_put2 M0 629 0 (nI (am_done sc (tb j) j k (wm j))).toInt64) M' ∧ M'.1 586 0 = nI 0, by decide, by decide, by rw [e1, e2]; exact wr_step hR1 (wA_wf hA) hj hu (wA_W hA j) hk1 hk40, fun M' h => ⟨h.2.2, fun _ => by rw [(h.2.1 629 (Or.inr (by decide))).2.1]; exact put2_w, ⟨up, lf, va_up wm j (am_rounds sc (tb j) j k (wm j)), wc, ws, ms, C, W, L, sc, tb, FC, FV, mt, hm, ru, pu, wC_lo (fun q a => h.2.1 q (Or.inl a)) (wC_lo put2_E.1 hc0), h.1, wA_mem hA hu (gi_rounds hA.1 hj hsb hsl k)⟩⟩⟩
    · refine lw_step (B := w_W) hc hex hX hxl hxb hlen hi (k := nI 1) (PA := fun M' => M' = M) (fr1 := 7) (lo1 := 114) (by decide) (by decide) hz ?_ ?_ kk
      · exact k_step_x1 (rm0 := { frames := 6, cells := 1, slots := 6, locals := 90 }) (x_step_bad htr (fun h => hw (wi_of_le h.2)))
      · intro M1 hM1
        rw [hM1]
        exact ⟨nI 0, 2, 44, fun M' => M' = fm_put1 M 586 0 (nI 1), by decide, by decide, by exact r_step_unfit (by decide) hR.1 hv hw, fun M' h => ⟨by rw [h]; exact p1_same _ _ _ _, fun g => absurd g (by decide), by rw [h]; exact wW_t hWW⟩⟩
  · refine lw_step (B := w_W) hc hex hX hxl hxb hlen hi (k := nI 1) (PA := fun M' => M' = M) (fr1 := 7) (lo1 := 114) (by decide) (by decide) hz ?_ ?_ kk
    · exact k_step_x1 (rm0 := { frames := 6, cells := 1, slots := 6, locals := 90 }) (x_step_bad htr (fun h => hv h.1))
    · intro M1 hM1
      rw [hM1]
      exact ⟨nI 0, 2, 44, fun M' => M' = fm_put1 M 586 0 (nI 1), by decide, by decide, by exact r_step_bad (by decide) hR.1 hv, fun M' h => ⟨by rw [h]; exact p1_same _ _ _ _, fun g => absurd g (by decide), by rw [h]; exact wW_t hWW⟩⟩
theorem g_tick (htr : l.stackTraces = false) (hc : fm_Cx p s m args meth c fm_cl b D 7 b_Lw_law "AgentNetLaw" fm_T0 (fm_tys dA)) (hex : fm_EX b x s) (hX : va_X (x 0) len f s s.heap) (hxl : x 0 < s.heap.size) (hxb : x 0 < b) (hlen : len < 2 ^ 31) (hi : i + 5 ≤ len) (hz : z.1 + 1 ≤ room_1.cells ∧ z.2 + 6 ≤ room_1.slots) (hW : w_W M) (kk : ∀ M', w_W M' → fm_G p l e room_1 s m args below meth c Q fm_lay fm_nf fm_fk fm_cl b x D dA 7 1091 [(4, .int (nI i)), (3, .ref 629), (2, .ref 586), (1, .ref 8), (0, .ref 0)] [] 630 M' (z.1 + 1, z.2 + 6)) : fm_G p l e room_1 s m args below meth c Q fm_lay fm_nf fm_fk fm_cl b x D dA 7 406 [(4, .int (nI i)), (3, .ref 629), (2, .ref 586), (1, .ref 8), (0, .ref 0)] [] 630 M z := by
  have hWW := hW
  obtain ⟨up, lf, wm, wc, ws, ms, C, W, L, sc, tb, FC, FV, mt, hm, ru, pu, hC, hR, hA⟩ := hW
  by_cases hv : fm_in 4 (f (i + 1))
  · obtain ⟨j, hj, e1⟩ := in4_to hv
    have hu01 := (hA.2.1 j).1
    obtain ⟨pa, pb, pc, hT⟩ := hC.2.1 j hj
    have hT : cw_T j (up j) (lf j) (wm j) (wc j) (ws j) M pa pb pc := hT
    have hRj := hR.2.1 j hj
    have hpa := cwO_M hj hT.1
    have hlo := isM_lo hpa
    rcases (show up j = 0 ∨ up j = 1 by omega) with hu | hu
    · refine lw_tick (B := w_W) hc hex hX hxl hxb hlen hi (k := nI 2) (PA := fun M' => M' = M) (fr1 := 7) (lo1 := 111) (by decide) (by decide) hz ?_ ?_ kk
      · rw [e1]; exact k_tick_x2 (rm0 := { frames := 6, cells := 1, slots := 6, locals := 90 }) (x_tick_down htr hj (by decide) hC.1.1 (by rw [hT.2.2.2.2.2.2.2.2.2.2.1, hu]; rfl))
      · intro M1 hM1
        rw [hM1]
        exact ⟨nI 0, 2, 44, fun M' => M' = fm_put1 M 586 0 (nI 2), by decide, by decide, by rw [e1]; exact r_tick_down (by decide) hR.1 hj (by rw [hRj.1, hu]; rfl), fun M' h => ⟨by rw [h]; exact p1_same _ _ _ _, fun g => absurd g (by decide), by rw [h]; exact wW_t hWW⟩⟩
    · refine lw_tick (B := w_W) hc hex hX hxl hxb hlen hi (k := nI 0) (PA := fun M' => ∃ M1, (w_C up lf (va_up wm j (am_pass (wm j))) wc ws (ar_all j (am_pass (wm j)) (ws j) ms 8) C W L sc tb FC FV mt M1 ∧ hi_E M M1) ∧ M' = fm_put2 M1 629 0 (nI (ar_all j (am_pass (wm j)) (ws j) ms 8).length).toInt64) (fr1 := 11) (lo1 := 421) (by decide) (by decide) hz ?_ ?_ kk
      · rw [e1]; exact k_tick_ok (rm0 := { frames := 10, cells := 1, slots := 6, locals := 400 }) (PM := fun M' => w_C up lf (va_up wm j (am_pass (wm j))) wc ws (ar_all j (am_pass (wm j)) (ws j) ms 8) C W L sc tb FC FV mt M' ∧ hi_E M M') (wc_tick htr hC hj hu (wA_W hA j) (wA_wf hA j).2.2)
      · intro M1 hM1
        obtain ⟨M0, ⟨hc0, he0⟩, rfl⟩ := hM1
        have hR1 : w_R up lf wm wc ws ms C W L sc tb hm ru pu (fm_put2 M0 629 0 (nI (ar_all j (am_pass (wm j)) (ws j) ms 8).length).toInt64) := wR_hi (hiE_tr he0 put2_E.2) hR
        exact ⟨nI (ar_all j (am_pass (wm j)) (ws j) ms 8).length, 5, 200, fun M' => w_R up lf (va_up wm j (am_pass (wm j))) wc ws (ar_all j (am_pass (wm j)) (ws j) ms 8) C W L sc tb hm ru pu M' ∧ lo_E (fm_put2 M0 629 0 (nI (ar_all j (am_pass (wm j)) (ws j) ms 8).length).toInt64) M' ∧ M'.1 586 0 = nI 0, by decide, by decide, by rw [e1]; exact wr_tick hR1 (wA_wf hA) hj hu (wA_W hA j), fun M' h => ⟨h.2.2, fun _ => by rw [(h.2.1 629 (Or.inr (by decide))).2.1]; exact put2_w, ⟨up, lf, va_up wm j (am_pass (wm j)), wc, ws, ar_all j (am_pass (wm j)) (ws j) ms 8, C, W, L, sc, tb, FC, FV, mt, hm, ru, pu, wC_lo (fun q a => h.2.1 q (Or.inl a)) (wC_lo put2_E.1 hc0), h.1, wA_mem hA hu (gi_tick hA.1 hj)⟩⟩⟩
  · refine lw_tick (B := w_W) hc hex hX hxl hxb hlen hi (k := nI 1) (PA := fun M' => M' = M) (fr1 := 7) (lo1 := 111) (by decide) (by decide) hz ?_ ?_ kk
    · exact k_tick_x1 (rm0 := { frames := 6, cells := 1, slots := 6, locals := 90 }) (x_tick_bad htr hv)
    · intro M1 hM1
      rw [hM1]
      exact ⟨nI 0, 2, 44, fun M' => M' = fm_put1 M 586 0 (nI 1), by decide, by decide, by exact r_tick_bad (by decide) hR.1 hv, fun M' h => ⟨by rw [h]; exact p1_same _ _ _ _, fun g => absurd g (by decide), by rw [h]; exact wW_t hWW⟩⟩
theorem g_checkpoint (htr : l.stackTraces = false) (hc : fm_Cx p s m args meth c fm_cl b D 7 b_Lw_law "AgentNetLaw" fm_T0 (fm_tys dA)) (hex : fm_EX b x s) (hX : va_X (x 0) len f s s.heap) (hxl : x 0 < s.heap.size) (hxb : x 0 < b) (hlen : len < 2 ^ 31) (hi : i + 5 ≤ len) (hz : z.1 + 1 ≤ room_1.cells ∧ z.2 + 6 ≤ room_1.slots) (hW : w_W M) (kk : ∀ M', w_W M' → fm_G p l e room_1 s m args below meth c Q fm_lay fm_nf fm_fk fm_cl b x D dA 7 1091 [(4, .int (nI i)), (3, .ref 629), (2, .ref 586), (1, .ref 8), (0, .ref 0)] [] 630 M' (z.1 + 1, z.2 + 6)) : fm_G p l e room_1 s m args below meth c Q fm_lay fm_nf fm_fk fm_cl b x D dA 7 462 [(4, .int (nI i)), (3, .ref 629), (2, .ref 586), (1, .ref 8), (0, .ref 0)] [] 630 M z := by
  have hWW := hW
  obtain ⟨up, lf, wm, wc, ws, ms, C, W, L, sc, tb, FC, FV, mt, hm, ru, pu, hC, hR, hA⟩ := hW
  by_cases hv : fm_in 4 (f (i + 1))
  · obtain ⟨j, hj, e1⟩ := in4_to hv
    have hu01 := (hA.2.1 j).1
    obtain ⟨pa, pb, pc, hT⟩ := hC.2.1 j hj
    have hT : cw_T j (up j) (lf j) (wm j) (wc j) (ws j) M pa pb pc := hT
    have hRj := hR.2.1 j hj
    have hpa := cwO_M hj hT.1
    have hlo := isM_lo hpa
    rcases (show up j = 0 ∨ up j = 1 by omega) with hu | hu
    · refine lw_checkpoint (B := w_W) hc hex hX hxl hxb hlen hi (k := nI 2) (PA := fun M' => M' = M) (fr1 := 7) (lo1 := 111) (by decide) (by decide) hz ?_ ?_ kk
      · rw [e1]; exact k_checkpoint_x2 (rm0 := { frames := 6, cells := 1, slots := 6, locals := 90 }) (x_checkpoint_down htr hj (by decide) hC.1.1 (by rw [hT.2.2.2.2.2.2.2.2.2.2.1, hu]; rfl))
      · intro M1 hM1
        rw [hM1]
        exact ⟨nI 0, 2, 44, fun M' => M' = fm_put1 M 586 0 (nI 2), by decide, by decide, by rw [e1]; exact r_checkpoint_down (by decide) hR.1 hj (by rw [hRj.1, hu]; rfl), fun M' h => ⟨by rw [h]; exact p1_same _ _ _ _, fun g => absurd g (by decide), by rw [h]; exact wW_t hWW⟩⟩
    · have hl9 := (hA.2.1 j).2.1
      by_cases hl : lf j = 0
      · refine lw_checkpoint (B := w_W) hc hex hX hxl hxb hlen hi (k := nI 0) (PA := fun M' => ∃ M1, (w_C up (va_up lf j (am_fil (wm j).1 8 + 1)) wm (va_up wc j (wm j)) ws ms C W L sc tb FC FV mt M1 ∧ hi_E M M1) ∧ M' = fm_put2 M1 629 0 (nI (am_fil (wm j).1 8 + 1)).toInt64) (fr1 := 11) (lo1 := 421) (by decide) (by decide) hz ?_ ?_ kk
        · rw [e1]; exact k_checkpoint_ok (rm0 := { frames := 10, cells := 1, slots := 6, locals := 400 }) (PM := fun M' => w_C up (va_up lf j (am_fil (wm j).1 8 + 1)) wm (va_up wc j (wm j)) ws ms C W L sc tb FC FV mt M' ∧ hi_E M M') (wc_checkpoint htr hC hj hu hl (wA_wf hA j).1)
        · intro M1 hM1
          obtain ⟨M0, ⟨hc0, he0⟩, rfl⟩ := hM1
          have hR1 : w_R up lf wm wc ws ms C W L sc tb hm ru pu (fm_put2 M0 629 0 (nI (am_fil (wm j).1 8 + 1)).toInt64) := wR_hi (hiE_tr he0 put2_E.2) hR
          exact ⟨nI (am_fil (wm j).1 8 + 1), 5, 200, fun M' => w_R up (va_up lf j (am_fil (wm j).1 8 + 1)) wm (va_up wc j (wm j)) ws ms C W L sc tb hm ru pu M' ∧ lo_E (fm_put2 M0 629 0 (nI (am_fil (wm j).1 8 + 1)).toInt64) M' ∧ M'.1 586 0 = nI 0, by decide, by decide, by rw [e1]; exact wr_checkpoint hR1 (wA_wf hA) hj hu hl, fun M' h => ⟨h.2.2, fun _ => by rw [(h.2.1 629 (Or.inr (by decide))).2.1]; exact put2_w, ⟨up, va_up lf j (am_fil (wm j).1 8 + 1), wm, va_up wc j (wm j), ws, ms, C, W, L, sc, tb, FC, FV, mt, hm, ru, pu, wC_lo (fun q a => h.2.1 q (Or.inl a)) (wC_lo put2_E.1 hc0), h.1, wA_checkpoint hA hu⟩⟩⟩
      · refine lw_checkpoint (B := w_W) hc hex hX hxl hxb hlen hi (k := nI 2) (PA := fun M' => M' = M) (fr1 := 7) (lo1 := 111) (by decide) (by decide) hz ?_ ?_ kk
        · rw [e1]; exact k_checkpoint_x2 (rm0 := { frames := 6, cells := 1, slots := 6, locals := 90 }) (x_checkpoint_busy htr hj (by decide) hC.1.1 (cwT_u hT hu) (by rw [hT.2.2.2.2.2.2.2.2.2.2.2.1]; exact nI_ltB (a := 0) (by omega) (by omega)))
        · intro M1 hM1
          rw [hM1]
          exact ⟨nI 0, 3, 80, fun M' => M' = fm_put1 (fm_put1 M 586 0 (nI 0)) 586 0 (nI 2), by decide, by decide, by rw [e1]; exact r_checkpoint_busy (by decide) hR.1 hj (rfS_u hRj hu) hRj.2.1 (by omega) hl9, fun M' h => ⟨by rw [h]; exact p1_same _ _ _ _, fun g => absurd g (by decide), by rw [h]; exact wW_t (wW_t hWW)⟩⟩
  · refine lw_checkpoint (B := w_W) hc hex hX hxl hxb hlen hi (k := nI 1) (PA := fun M' => M' = M) (fr1 := 7) (lo1 := 111) (by decide) (by decide) hz ?_ ?_ kk
    · exact k_checkpoint_x1 (rm0 := { frames := 6, cells := 1, slots := 6, locals := 90 }) (x_checkpoint_bad htr hv)
    · intro M1 hM1
      rw [hM1]
      exact ⟨nI 0, 2, 44, fun M' => M' = fm_put1 M 586 0 (nI 1), by decide, by decide, by exact r_checkpoint_bad (by decide) hR.1 hv, fun M' h => ⟨by rw [h]; exact p1_same _ _ _ _, fun g => absurd g (by decide), by rw [h]; exact wW_t hWW⟩⟩
theorem g_write (htr : l.stackTraces = false) (hc : fm_Cx p s m args meth c fm_cl b D 7 b_Lw_law "AgentNetLaw" fm_T0 (fm_tys dA)) (hex : fm_EX b x s) (hX : va_X (x 0) len f s s.heap) (hxl : x 0 < s.heap.size) (hxb : x 0 < b) (hlen : len < 2 ^ 31) (hi : i + 5 ≤ len) (hz : z.1 + 1 ≤ room_1.cells ∧ z.2 + 6 ≤ room_1.slots) (hW : w_W M) (kk : ∀ M', w_W M' → fm_G p l e room_1 s m args below meth c Q fm_lay fm_nf fm_fk fm_cl b x D dA 7 1091 [(4, .int (nI i)), (3, .ref 629), (2, .ref 586), (1, .ref 8), (0, .ref 0)] [] 630 M' (z.1 + 1, z.2 + 6)) : fm_G p l e room_1 s m args below meth c Q fm_lay fm_nf fm_fk fm_cl b x D dA 7 518 [(4, .int (nI i)), (3, .ref 629), (2, .ref 586), (1, .ref 8), (0, .ref 0)] [] 630 M z := by
  have hWW := hW
  obtain ⟨up, lf, wm, wc, ws, ms, C, W, L, sc, tb, FC, FV, mt, hm, ru, pu, hC, hR, hA⟩ := hW
  by_cases hw : f (i + 2) ≤ 0
  · by_cases hv : fm_in 4 (f (i + 1))
    · refine lw_write (B := w_W) hc hex hX hxl hxb hlen hi (k := nI 1) (PA := fun M' => M' = M) (fr1 := 7) (lo1 := 113) (by decide) (by decide) hz ?_ ?_ kk
      · exact k_write_x1 (rm0 := { frames := 6, cells := 1, slots := 6, locals := 90 }) (x_write_bad htr (fun h => absurd hw (ge1.mp h.2)))
      · intro M1 hM1
        rw [hM1]
        exact ⟨nI 0, 2, 44, fun M' => M' = fm_put1 M 586 0 (nI 1), by decide, by decide, by exact r_write_unfit (by decide) hR.1 hv hw, fun M' h => ⟨by rw [h]; exact p1_same _ _ _ _, fun g => absurd g (by decide), by rw [h]; exact wW_t hWW⟩⟩
    · refine lw_write (B := w_W) hc hex hX hxl hxb hlen hi (k := nI 1) (PA := fun M' => M' = M) (fr1 := 7) (lo1 := 113) (by decide) (by decide) hz ?_ ?_ kk
      · exact k_write_x1 (rm0 := { frames := 6, cells := 1, slots := 6, locals := 90 }) (x_write_bad htr (fun h => absurd hw (ge1.mp h.2)))
      · intro M1 hM1
        rw [hM1]
        exact ⟨nI 0, 2, 44, fun M' => M' = fm_put1 M 586 0 (nI 1), by decide, by decide, by exact r_write_bad0 (by decide) hR.1 hv hw, fun M' h => ⟨by rw [h]; exact p1_same _ _ _ _, fun g => absurd g (by decide), by rw [h]; exact wW_t hWW⟩⟩
  · by_cases hv : fm_in 4 (f (i + 1))
    · obtain ⟨j, hj, e1⟩ := in4_to hv
      have hu01 := (hA.2.1 j).1
      obtain ⟨pa, pb, pc, hT⟩ := hC.2.1 j hj
      have hT : cw_T j (up j) (lf j) (wm j) (wc j) (ws j) M pa pb pc := hT
      have hRj := hR.2.1 j hj
      have hpa := cwO_M hj hT.1
      have hlo := isM_lo hpa
      rcases (show up j = 0 ∨ up j = 1 by omega) with hu | hu
      · refine lw_write (B := w_W) hc hex hX hxl hxb hlen hi (k := nI 2) (PA := fun M' => M' = M) (fr1 := 7) (lo1 := 113) (by decide) (by decide) hz ?_ ?_ kk
        · rw [e1]; exact k_write_x2 (rm0 := { frames := 6, cells := 1, slots := 6, locals := 90 }) (x_write_down htr hj (by decide) hC.1.1 (ge1.mpr hw) (by rw [hT.2.2.2.2.2.2.2.2.2.2.1, hu]; rfl))
        · intro M1 hM1
          rw [hM1]
          exact ⟨nI 0, 2, 44, fun M' => M' = fm_put1 M 586 0 (nI 2), by decide, by decide, by rw [e1]; exact r_write_down (by decide) hR.1 hj hw (by rw [hRj.1, hu]; rfl), fun M' h => ⟨by rw [h]; exact p1_same _ _ _ _, fun g => absurd g (by decide), by rw [h]; exact wW_t hWW⟩⟩
      · have hl9 := (hA.2.1 j).2.1
        by_cases hl : lf j = 0
        · refine lw_write (B := w_W) hc hex hX hxl hxb hlen hi (k := nI 2) (PA := fun M' => M' = M) (fr1 := 7) (lo1 := 113) (by decide) (by decide) hz ?_ ?_ kk
          · rw [e1]; exact k_write_x2 (rm0 := { frames := 6, cells := 1, slots := 6, locals := 90 }) (x_write_none htr hj (by decide) hC.1.1 (ge1.mpr hw) (cwT_u hT hu) (by rw [hT.2.2.2.2.2.2.2.2.2.2.2.1, hl]; rfl))
          · intro M1 hM1
            rw [hM1]
            exact ⟨nI 0, 2, 44, fun M' => M' = fm_put1 M 586 0 (nI 2), by decide, by decide, by rw [e1]; exact r_write_none (by decide) hR.1 hj hw (rfS_u hRj hu) (by rw [hRj.2.1, hl]; rfl), fun M' h => ⟨by rw [h]; exact p1_same _ _ _ _, fun g => absurd g (by decide), by rw [h]; exact wW_t hWW⟩⟩
        · by_cases hlt : f (i + 2) < nI (lf j)
          · obtain ⟨k, hkl, e2⟩ := inN_to (N := lf j) (by omega) ⟨fun q => hw (Int32.le_of_lt q), Int32.not_le.mpr hlt⟩
            have hk1 : 1 ≤ k := by
              rcases Nat.eq_zero_or_pos k with q | q
              · subst q
                exact absurd (show f (i + 2) ≤ 0 by rw [e2]; decide) hw
              · exact q
            refine lw_write (B := w_W) hc hex hX hxl hxb hlen hi (k := nI 0) (PA := fun M' => ∃ M1, (w_C up (va_up lf j (lf j - k)) wm wc ws ms C W L sc tb FC FV mt M1 ∧ hi_E M M1) ∧ M' = fm_put2 M1 629 0 (nI (lf j - k)).toInt64) (fr1 := 11) (lo1 := 423) (by decide) (by decide) hz ?_ ?_ kk
            · rw [e1, e2]; exact k_write_ok (rm0 := { frames := 10, cells := 1, slots := 6, locals := 400 }) (PM := fun M' => w_C up (va_up lf j (lf j - k)) wm wc ws ms C W L sc tb FC FV mt M' ∧ hi_E M M') (wc_less htr hC hj hu hl9 hk1 hkl)
            · intro M1 hM1
              obtain ⟨M0, ⟨hc0, he0⟩, rfl⟩ := hM1
              have hR1 : w_R up lf wm wc ws ms C W L sc tb hm ru pu (fm_put2 M0 629 0 (nI (lf j - k)).toInt64) := wR_hi (hiE_tr he0 put2_E.2) hR
              exact ⟨nI (lf j - k), 5, 200, fun M' => w_R up (va_up lf j (lf j - k)) wm wc ws ms C W L sc tb hm ru pu M' ∧ lo_E (fm_put2 M0 629 0 (nI (lf j - k)).toInt64) M' ∧ M'.1 586 0 = nI 0, by decide, by decide, by rw [e1, e2]; exact wr_less hR1 hj hu hl9 hk1 hkl, fun M' h => ⟨h.2.2, fun _ => by rw [(h.2.1 629 (Or.inr (by decide))).2.1]; exact put2_w, ⟨up, va_up lf j (lf j - k), wm, wc, ws, ms, C, W, L, sc, tb, FC, FV, mt, hm, ru, pu, wC_lo (fun q a => h.2.1 q (Or.inl a)) (wC_lo put2_E.1 hc0), h.1, wA_less hA hu hkl⟩⟩⟩
          · have hC16 : ∀ a, a < 8 → C a ≤ 16 := fun a ha => (hC.2.2.2.1 a ha).1
            have hsr : sr_ok C (wc j).2.2.2.2.2.2.2 (wc j).2.2.2.2.2.1 (fun a => bt ((wc j).2.2.2.2.2.1 a)) := by
              obtain ⟨⟨N, g, I, q⟩, -⟩ := hA
              exact gi_words q hC16 j
            have how : (∀ a, a < 8 → (wc j).2.2.2.2.2.2.2 a ≤ 16) ∧ ∀ a, a < 8 → (wc j).2.2.1 a = -1 ∨ ¬ (wc j).2.2.1 a < 0 := by
              obtain ⟨⟨N, g, I, q⟩, -⟩ := hA
              exact gi_owed q j
            refine lw_write (B := w_W) hc hex hX hxl hxb hlen hi (k := nI 0) (PA := fun M' => ∃ M1, (w_C up (va_up lf j 0) (va_up wm j (am_ow (wm j) (sl_O (wc j) (wm j) 8))) wc (va_up ws j (wc j)) (sl_W j (wc j) ms 8) (sr_C C (wc j).2.2.2.2.2.2.2) (sr_W C W (wc j).2.2.2.2.2.2.1) L sc tb FC FV mt M1 ∧ hi_E M M1) ∧ M' = fm_put2 M1 629 0 (nI 0).toInt64) (fr1 := 11) (lo1 := 423) (by decide) (by decide) hz ?_ ?_ kk
            · rw [e1]; exact k_write_ok (rm0 := { frames := 10, cells := 1, slots := 6, locals := 400 }) (PM := fun M' => w_C up (va_up lf j 0) (va_up wm j (am_ow (wm j) (sl_O (wc j) (wm j) 8))) wc (va_up ws j (wc j)) (sl_W j (wc j) ms 8) (sr_C C (wc j).2.2.2.2.2.2.2) (sr_W C W (wc j).2.2.2.2.2.2.1) L sc tb FC FV mt M' ∧ hi_E M M') (wc_seal htr hC hj hu (by omega) hl9 hsr (ge1.mpr hw) hlt)
            · intro M1 hM1
              obtain ⟨M0, ⟨hc0, he0⟩, rfl⟩ := hM1
              have hR1 : w_R up lf wm wc ws ms C W L sc tb hm ru pu (fm_put2 M0 629 0 (nI 0).toInt64) := wR_hi (hiE_tr he0 put2_E.2) hR
              exact ⟨nI 0, 5, 200, fun M' => w_R up (va_up lf j 0) (va_up wm j (am_ow (wm j) (sl_O (wc j) (wm j) 8))) wc (va_up ws j (wc j)) (sl_W j (wc j) ms 8) (sr_C C (wc j).2.2.2.2.2.2.2) (sr_W C W (wc j).2.2.2.2.2.2.1) L sc tb hm ru pu M' ∧ lo_E (fm_put2 M0 629 0 (nI 0).toInt64) M' ∧ M'.1 586 0 = nI 0, by decide, by decide, by rw [e1]; exact wr_seal hR1 (wA_wf hA) hj hu (by omega) hl9 how.1 how.2 hw hlt, fun M' h => ⟨h.2.2, fun _ => by rw [(h.2.1 629 (Or.inr (by decide))).2.1]; exact put2_w, ⟨up, va_up lf j 0, va_up wm j (am_ow (wm j) (sl_O (wc j) (wm j) 8)), wc, va_up ws j (wc j), sl_W j (wc j) ms 8, sr_C C (wc j).2.2.2.2.2.2.2, sr_W C W (wc j).2.2.2.2.2.2.1, L, sc, tb, FC, FV, mt, hm, ru, pu, wC_lo (fun q a => h.2.1 q (Or.inl a)) (wC_lo put2_E.1 hc0), h.1, wA_seal hA hj hu⟩⟩⟩
    · refine lw_write (B := w_W) hc hex hX hxl hxb hlen hi (k := nI 1) (PA := fun M' => M' = M) (fr1 := 7) (lo1 := 113) (by decide) (by decide) hz ?_ ?_ kk
      · exact k_write_x1 (rm0 := { frames := 6, cells := 1, slots := 6, locals := 90 }) (x_write_bad htr (fun h => hv h.1))
      · intro M1 hM1
        rw [hM1]
        exact ⟨nI 0, 2, 44, fun M' => M' = fm_put1 M 586 0 (nI 1), by decide, by decide, by exact r_write_bad (by decide) hR.1 hv hw, fun M' h => ⟨by rw [h]; exact p1_same _ _ _ _, fun g => absurd g (by decide), by rw [h]; exact wW_t hWW⟩⟩
theorem g_crash (htr : l.stackTraces = false) (hc : fm_Cx p s m args meth c fm_cl b D 7 b_Lw_law "AgentNetLaw" fm_T0 (fm_tys dA)) (hex : fm_EX b x s) (hX : va_X (x 0) len f s s.heap) (hxl : x 0 < s.heap.size) (hxb : x 0 < b) (hlen : len < 2 ^ 31) (hi : i + 5 ≤ len) (hz : z.1 + 1 ≤ room_1.cells ∧ z.2 + 6 ≤ room_1.slots) (hW : w_W M) (kk : ∀ M', w_W M' → fm_G p l e room_1 s m args below meth c Q fm_lay fm_nf fm_fk fm_cl b x D dA 7 1091 [(4, .int (nI i)), (3, .ref 629), (2, .ref 586), (1, .ref 8), (0, .ref 0)] [] 630 M' (z.1 + 1, z.2 + 6)) : fm_G p l e room_1 s m args below meth c Q fm_lay fm_nf fm_fk fm_cl b x D dA 7 586 [(4, .int (nI i)), (3, .ref 629), (2, .ref 586), (1, .ref 8), (0, .ref 0)] [] 630 M z := by
  have hWW := hW
  obtain ⟨up, lf, wm, wc, ws, ms, C, W, L, sc, tb, FC, FV, mt, hm, ru, pu, hC, hR, hA⟩ := hW
  by_cases hv : fm_in 4 (f (i + 1))
  · obtain ⟨j, hj, e1⟩ := in4_to hv
    have hu01 := (hA.2.1 j).1
    obtain ⟨pa, pb, pc, hT⟩ := hC.2.1 j hj
    have hT : cw_T j (up j) (lf j) (wm j) (wc j) (ws j) M pa pb pc := hT
    have hRj := hR.2.1 j hj
    have hpa := cwO_M hj hT.1
    have hlo := isM_lo hpa
    rcases (show up j = 0 ∨ up j = 1 by omega) with hu | hu
    · refine lw_crash (B := w_W) hc hex hX hxl hxb hlen hi (k := nI 0) (PA := fun M' => ∃ M1, (fun M' => M' = M) M1 ∧ M' = fm_put2 M1 629 0 (if nI 0 = 0 then 0 else 1)) (fr1 := 7) (lo1 := 111) (by decide) (by decide) hz ?_ ?_ kk
      · rw [e1]; exact k_crash_ok (rm0 := { frames := 6, cells := 1, slots := 6, locals := 90 }) (PM := fun M' => M' = M) (x_crash_idle htr hj (by decide) hC.1.1 (by rw [hT.2.2.2.2.2.2.2.2.2.2.1, hu]; rfl))
      · intro M1 hM1
        obtain ⟨M0, hM0, rfl⟩ := hM1
        obtain rfl : M0 = M := hM0
        have hR1 : w_R up lf wm wc ws ms C W L sc tb hm ru pu (fm_put2 M0 629 0 (if nI 0 = 0 then 0 else 1)) := wR_hi put2_E.2 hR
        exact ⟨nI 0, 1, 22, fun M' => M' = fm_put1 (fm_put2 M0 629 0 (if nI 0 = 0 then 0 else 1)) 586 0 (nI 0), by decide, by decide, by rw [e1]; exact r_crash_idle (by decide) hR1.1 hj (by rw [(hR1.2.1 j hj).1, hu]; rfl), fun M' h => ⟨by rw [h]; exact p1_same _ _ _ _, fun _ => by rw [h]; exact put2_w, ⟨up, lf, wm, wc, ws, ms, C, W, L, sc, tb, FC, FV, mt, hm, ru, pu, by rw [h]; exact wC_lo (fun q a => loE_t q (Or.inl a)) (wC_lo put2_E.1 hC), by rw [h]; exact wR_t hR1, hA⟩⟩⟩
    · refine lw_crash (B := w_W) hc hex hX hxl hxb hlen hi (k := nI 0) (PA := fun M' => ∃ M1, (w_C (va_up up j 0) (va_up lf j 0) (va_up wm j (ws j)) (va_up wc j (ws j)) ws ms C W L sc tb FC FV mt M1 ∧ hi_E M M1) ∧ M' = fm_put2 M1 629 0 (if nI 1 = 0 then 0 else 1)) (fr1 := 7) (lo1 := 111) (by decide) (by decide) hz ?_ ?_ kk
      · rw [e1]; exact k_crash_ok (rm0 := { frames := 6, cells := 1, slots := 6, locals := 90 }) (PM := fun M' => w_C (va_up up j 0) (va_up lf j 0) (va_up wm j (ws j)) (va_up wc j (ws j)) ws ms C W L sc tb FC FV mt M' ∧ hi_E M M') (wc_crash htr hC hj hu)
      · intro M1 hM1
        obtain ⟨M0, ⟨hc0, he0⟩, rfl⟩ := hM1
        have hR1 : w_R up lf wm wc ws ms C W L sc tb hm ru pu (fm_put2 M0 629 0 (if nI 1 = 0 then 0 else 1)) := wR_hi (hiE_tr he0 put2_E.2) hR
        exact ⟨nI 1, 1, 22, fun M' => w_R (va_up up j 0) (va_up lf j 0) (va_up wm j (ws j)) (va_up wc j (ws j)) ws ms C W L sc tb hm ru pu M' ∧ lo_E (fm_put2 M0 629 0 (if nI 1 = 0 then 0 else 1)) M' ∧ M'.1 586 0 = nI 0, by decide, by decide, by rw [e1]; exact wr_crash hR1 (wA_wf hA) hj hu, fun M' h => ⟨h.2.2, fun _ => by rw [(h.2.1 629 (Or.inr (by decide))).2.1]; exact put2_w, ⟨va_up up j 0, va_up lf j 0, va_up wm j (ws j), va_up wc j (ws j), ws, ms, C, W, L, sc, tb, FC, FV, mt, hm, ru, pu, wC_lo (fun q a => h.2.1 q (Or.inl a)) (wC_lo put2_E.1 hc0), h.1, wA_crash hA⟩⟩⟩
  · refine lw_crash (B := w_W) hc hex hX hxl hxb hlen hi (k := nI 1) (PA := fun M' => M' = M) (fr1 := 7) (lo1 := 111) (by decide) (by decide) hz ?_ ?_ kk
    · exact k_crash_x1 (rm0 := { frames := 6, cells := 1, slots := 6, locals := 90 }) (x_crash_bad htr hv)
    · intro M1 hM1
      rw [hM1]
      exact ⟨nI 0, 1, 22, fun M' => M' = fm_put1 M 586 0 (nI 1), by decide, by decide, by exact r_crash_bad (by decide) hR.1 hv, fun M' h => ⟨by rw [h]; exact p1_same _ _ _ _, fun g => absurd g (by decide), by rw [h]; exact wW_t hWW⟩⟩
theorem g_start (htr : l.stackTraces = false) (hc : fm_Cx p s m args meth c fm_cl b D 7 b_Lw_law "AgentNetLaw" fm_T0 (fm_tys dA)) (hex : fm_EX b x s) (hX : va_X (x 0) len f s s.heap) (hxl : x 0 < s.heap.size) (hxb : x 0 < b) (hlen : len < 2 ^ 31) (hi : i + 5 ≤ len) (hz : z.1 + 1 ≤ room_1.cells ∧ z.2 + 6 ≤ room_1.slots) (hW : w_W M) (kk : ∀ M', w_W M' → fm_G p l e room_1 s m args below meth c Q fm_lay fm_nf fm_fk fm_cl b x D dA 7 1091 [(4, .int (nI i)), (3, .ref 629), (2, .ref 586), (1, .ref 8), (0, .ref 0)] [] 630 M' (z.1 + 1, z.2 + 6)) : fm_G p l e room_1 s m args below meth c Q fm_lay fm_nf fm_fk fm_cl b x D dA 7 649 [(4, .int (nI i)), (3, .ref 629), (2, .ref 586), (1, .ref 8), (0, .ref 0)] [] 630 M z := by
  have hWW := hW
  obtain ⟨up, lf, wm, wc, ws, ms, C, W, L, sc, tb, FC, FV, mt, hm, ru, pu, hC, hR, hA⟩ := hW
  by_cases hv : fm_in 4 (f (i + 1))
  · obtain ⟨j, hj, e1⟩ := in4_to hv
    have hu01 := (hA.2.1 j).1
    obtain ⟨pa, pb, pc, hT⟩ := hC.2.1 j hj
    have hT : cw_T j (up j) (lf j) (wm j) (wc j) (ws j) M pa pb pc := hT
    have hRj := hR.2.1 j hj
    have hpa := cwO_M hj hT.1
    have hlo := isM_lo hpa
    rcases (show up j = 0 ∨ up j = 1 by omega) with hu | hu
    · have hl0 : lf j = 0 := by
        by_cases q : lf j = 0
        · exact q
        · have := (hA.2.1 j).2.2.1 q
          omega
      refine lw_start (B := w_W) hc hex hX hxl hxb hlen hi (k := nI 0) (PA := fun M' => ∃ M1, (w_C (va_up up j 1) lf wm wc ws ms C W L sc tb FC FV mt M1 ∧ hi_E M M1) ∧ M' = fm_put2 M1 629 0 (if nI 1 = 0 then 0 else 1)) (fr1 := 11) (lo1 := 421) (by decide) (by decide) hz ?_ ?_ kk
      · rw [e1]; exact k_start_ok (rm0 := { frames := 10, cells := 1, slots := 6, locals := 400 }) (PM := fun M' => w_C (va_up up j 1) lf wm wc ws ms C W L sc tb FC FV mt M' ∧ hi_E M M') (wc_start htr hC hj hu hl0 ((hA.2.1 j).2.2.2.1 hu) (wA_wf hA j).2.2)
      · intro M1 hM1
        obtain ⟨M0, ⟨hc0, he0⟩, rfl⟩ := hM1
        have hR1 : w_R up lf wm wc ws ms C W L sc tb hm ru pu (fm_put2 M0 629 0 (if nI 1 = 0 then 0 else 1)) := wR_hi (hiE_tr he0 put2_E.2) hR
        exact ⟨nI 1, 5, 200, fun M' => w_R (va_up up j 1) lf wm wc ws ms C W L sc tb hm ru pu M' ∧ lo_E (fm_put2 M0 629 0 (if nI 1 = 0 then 0 else 1)) M' ∧ M'.1 586 0 = nI 0, by decide, by decide, by rw [e1]; exact wr_start hR1 (wA_wf hA) hj hu hl0 ((hA.2.1 j).2.2.2.1 hu), fun M' h => ⟨h.2.2, fun _ => by rw [(h.2.1 629 (Or.inr (by decide))).2.1]; exact put2_w, ⟨va_up up j 1, lf, wm, wc, ws, ms, C, W, L, sc, tb, FC, FV, mt, hm, ru, pu, wC_lo (fun q a => h.2.1 q (Or.inl a)) (wC_lo put2_E.1 hc0), h.1, wA_start hA⟩⟩⟩
    · refine lw_start (B := w_W) hc hex hX hxl hxb hlen hi (k := nI 0) (PA := fun M' => ∃ M1, (fun M' => M' = M) M1 ∧ M' = fm_put2 M1 629 0 (if nI 0 = 0 then 0 else 1)) (fr1 := 7) (lo1 := 111) (by decide) (by decide) hz ?_ ?_ kk
      · rw [e1]; exact k_start_ok (rm0 := { frames := 6, cells := 1, slots := 6, locals := 90 }) (PM := fun M' => M' = M) (x_start_idle htr hj (by decide) hC.1.1 (cwT_u hT hu))
      · intro M1 hM1
        obtain ⟨M0, hM0, rfl⟩ := hM1
        obtain rfl : M0 = M := hM0
        have hR1 : w_R up lf wm wc ws ms C W L sc tb hm ru pu (fm_put2 M0 629 0 (if nI 0 = 0 then 0 else 1)) := wR_hi put2_E.2 hR
        exact ⟨nI 0, 1, 22, fun M' => M' = fm_put1 (fm_put2 M0 629 0 (if nI 0 = 0 then 0 else 1)) 586 0 (nI 0), by decide, by decide, by rw [e1]; exact r_start_idle (by decide) hR1.1 hj (rfS_u (hR1.2.1 j hj) hu), fun M' h => ⟨by rw [h]; exact p1_same _ _ _ _, fun _ => by rw [h]; exact put2_w, ⟨up, lf, wm, wc, ws, ms, C, W, L, sc, tb, FC, FV, mt, hm, ru, pu, by rw [h]; exact wC_lo (fun q a => loE_t q (Or.inl a)) (wC_lo put2_E.1 hC), by rw [h]; exact wR_t hR1, hA⟩⟩⟩
  · refine lw_start (B := w_W) hc hex hX hxl hxb hlen hi (k := nI 1) (PA := fun M' => M' = M) (fr1 := 7) (lo1 := 111) (by decide) (by decide) hz ?_ ?_ kk
    · exact k_start_x1 (rm0 := { frames := 6, cells := 1, slots := 6, locals := 90 }) (x_start_bad htr hv)
    · intro M1 hM1
      rw [hM1]
      exact ⟨nI 0, 1, 22, fun M' => M' = fm_put1 M 586 0 (nI 1), by decide, by decide, by exact r_start_bad (by decide) hR.1 hv, fun M' h => ⟨by rw [h]; exact p1_same _ _ _ _, fun g => absurd g (by decide), by rw [h]; exact wW_t hWW⟩⟩
theorem g_net (htr : l.stackTraces = false) (hc : fm_Cx p s m args meth c fm_cl b D 7 b_Lw_law "AgentNetLaw" fm_T0 (fm_tys dA)) (hex : fm_EX b x s) (hX : va_X (x 0) len f s s.heap) (hxl : x 0 < s.heap.size) (hxb : x 0 < b) (hlen : len < 2 ^ 31) (hi : i + 5 ≤ len) (hz : z.1 + 1 ≤ room_1.cells ∧ z.2 + 6 ≤ room_1.slots) (hW : w_W M) (kk : ∀ M', w_W M' → fm_G p l e room_1 s m args below meth c Q fm_lay fm_nf fm_fk fm_cl b x D dA 7 1091 [(4, .int (nI i)), (3, .ref 629), (2, .ref 586), (1, .ref 8), (0, .ref 0)] [] 630 M' (z.1 + 1, z.2 + 6)) : fm_G p l e room_1 s m args below meth c Q fm_lay fm_nf fm_fk fm_cl b x D dA 7 712 [(4, .int (nI i)), (3, .ref 629), (2, .ref 586), (1, .ref 8), (0, .ref 0)] [] 630 M z := by
  have hWW := hW
  obtain ⟨up, lf, wm, wc, ws, ms, C, W, L, sc, tb, FC, FV, mt, hm, ru, pu, hC, hR, hA⟩ := hW
  obtain ⟨w, hpw, hw1⟩ := hC.2.2.1
  have hl20 := hw1.2.1
  by_cases hw : ¬ f (i + 2) = 0 ∧ ¬ f (i + 2) = nI 1 ∧ ¬ f (i + 2) = nI 2
  · refine lw_net (B := w_W) hc hex hX hxl hxb hlen hi (k := nI 1) (PA := fun M' => M' = M) (fr1 := 7) (lo1 := 113) (by decide) (by decide) hz ?_ ?_ kk
    · exact k_net_x1 (rm0 := { frames := 6, cells := 1, slots := 6, locals := 90 }) (x_net_bad htr hw)
    · intro M1 hM1
      rw [hM1]
      exact ⟨nI 0, 1, 22, fun M' => M' = fm_put1 M 586 0 (nI 1), by decide, by decide, by exact r_net_bad (by decide) hR.1 (no02 hw), fun M' h => ⟨by rw [h]; exact p1_same _ _ _ _, fun g => absurd g (by decide), by rw [h]; exact wW_t hWW⟩⟩
  · by_cases hv : fm_in ms.length (f (i + 1))
    · obtain ⟨k, hk, e1⟩ := inN_to (by omega) hv
      obtain ⟨m0, hm0⟩ : ∃ m0, ms[k]? = some m0 := ⟨_, List.getElem?_eq_getElem hk⟩
      have hmb := wA_ms hA
      have hb := hmb m0 (List.mem_of_getElem? hm0)
      have hok : ∀ q ∈ ms, q.1 ≤ 1 := fun q hq => (hmb q hq).1.1
      rcases wi02 hw with e2 | e2 | e2
      · obtain ⟨j, A, hj, hto, him, hG⟩ := gi_dv hA.1 hm0
        have hu01 := (hA.2.1 j).1
        rcases (show up j = 0 ∨ up j = 1 by omega) with hu | hu
        · refine lw_net (B := w_W) hc hex hX hxl hxb hlen hi (k := nI 0) (PA := fun M' => ∃ M1, (w_C up lf wm wc ws (ms.eraseIdx k) C W L sc tb FC FV mt M1 ∧ hi_E M M1) ∧ M' = fm_put2 M1 629 0 (nI (ms.length - 1)).toInt64) (fr1 := 11) (lo1 := 423) (by decide) (by decide) hz ?_ ?_ kk
          · rw [e1, e2]; exact k_net_ok (rm0 := { frames := 10, cells := 1, slots := 6, locals := 400 }) (PM := fun M' => w_C up lf wm wc ws (ms.eraseIdx k) C W L sc tb FC FV mt M' ∧ hi_E M M') (wc_down htr hC hm0 hj hto hu)
          · intro M1 hM1
            obtain ⟨M0, ⟨hc0, he0⟩, rfl⟩ := hM1
            have hR1 : w_R up lf wm wc ws ms C W L sc tb hm ru pu (fm_put2 M0 629 0 (nI (ms.length - 1)).toInt64) := wR_hi (hiE_tr he0 put2_E.2) hR
            exact ⟨nI (ms.length - 1), 5, 200, fun M' => w_R up lf wm wc ws (ms.eraseIdx k) C W L sc tb hm ru pu M' ∧ lo_E (fm_put2 M0 629 0 (nI (ms.length - 1)).toInt64) M' ∧ M'.1 586 0 = nI 0, by decide, by decide, by rw [e1, e2]; exact wr_down hR1 (wA_wf hA) hm0 hok hj hto hb.2.1 hu, fun M' h => ⟨h.2.2, fun _ => by rw [(h.2.1 629 (Or.inr (by decide))).2.1]; exact put2_w, ⟨up, lf, wm, wc, ws, ms.eraseIdx k, C, W, L, sc, tb, FC, FV, mt, hm, ru, pu, wC_lo (fun q a => h.2.1 q (Or.inl a)) (wC_lo put2_E.1 hc0), h.1, wA_ms2 hA (gi_sub hA.1 (fun q w => List.mem_of_mem_eraseIdx w))⟩⟩⟩
        · refine lw_net (B := w_W) hc hex hX hxl hxb hlen hi (k := nI 0) (PA := fun M' => ∃ M1, (w_C up lf (va_up wm j (dv_M m0 A (wm j))) wc ws (dv_W j m0 (wm j) (ws j) (ms.eraseIdx k)) C W L sc tb FC FV mt M1 ∧ hi_E M M1) ∧ M' = fm_put2 M1 629 0 (nI (dv_W j m0 (wm j) (ws j) (ms.eraseIdx k)).length).toInt64) (fr1 := 11) (lo1 := 423) (by decide) (by decide) hz ?_ ?_ kk
          · rw [e1, e2]; exact k_net_ok (rm0 := { frames := 10, cells := 1, slots := 6, locals := 400 }) (PM := fun M' => w_C up lf (va_up wm j (dv_M m0 A (wm j))) wc ws (dv_W j m0 (wm j) (ws j) (ms.eraseIdx k)) C W L sc tb FC FV mt M' ∧ hi_E M M') (wc_deliver htr hC hm0 hj hto hu hb.1 hb.2.1 him (wA_wf hA j).1)
          · intro M1 hM1
            obtain ⟨M0, ⟨hc0, he0⟩, rfl⟩ := hM1
            have hR1 : w_R up lf wm wc ws ms C W L sc tb hm ru pu (fm_put2 M0 629 0 (nI (dv_W j m0 (wm j) (ws j) (ms.eraseIdx k)).length).toInt64) := wR_hi (hiE_tr he0 put2_E.2) hR
            exact ⟨nI (dv_W j m0 (wm j) (ws j) (ms.eraseIdx k)).length, 5, 200, fun M' => w_R up lf (va_up wm j (dv_M m0 A (wm j))) wc ws (dv_W j m0 (wm j) (ws j) (ms.eraseIdx k)) C W L sc tb hm ru pu M' ∧ lo_E (fm_put2 M0 629 0 (nI (dv_W j m0 (wm j) (ws j) (ms.eraseIdx k)).length).toInt64) M' ∧ M'.1 586 0 = nI 0, by decide, by decide, by rw [e1, e2]; exact wr_deliver hR1 (wA_wf hA) hm0 hok hj hto hb.2.1 him hu, fun M' h => ⟨h.2.2, fun _ => by rw [(h.2.1 629 (Or.inr (by decide))).2.1]; exact put2_w, ⟨up, lf, va_up wm j (dv_M m0 A (wm j)), wc, ws, dv_W j m0 (wm j) (ws j) (ms.eraseIdx k), C, W, L, sc, tb, FC, FV, mt, hm, ru, pu, wC_lo (fun q a => h.2.1 q (Or.inl a)) (wC_lo put2_E.1 hc0), h.1, wA_mem hA hu hG⟩⟩⟩
      · refine lw_net (B := w_W) hc hex hX hxl hxb hlen hi (k := nI 0) (PA := fun M' => ∃ M1, (w_C up lf wm wc ws (ms.eraseIdx k) C W L sc tb FC FV mt M1 ∧ hi_E M M1) ∧ M' = fm_put2 M1 629 0 (nI (ms.length - 1)).toInt64) (fr1 := 11) (lo1 := 423) (by decide) (by decide) hz ?_ ?_ kk
        · rw [e1, e2]; exact k_net_ok (rm0 := { frames := 10, cells := 1, slots := 6, locals := 400 }) (PM := fun M' => w_C up lf wm wc ws (ms.eraseIdx k) C W L sc tb FC FV mt M' ∧ hi_E M M') (wc_lose htr hC hm0)
        · intro M1 hM1
          obtain ⟨M0, ⟨hc0, he0⟩, rfl⟩ := hM1
          have hR1 : w_R up lf wm wc ws ms C W L sc tb hm ru pu (fm_put2 M0 629 0 (nI (ms.length - 1)).toInt64) := wR_hi (hiE_tr he0 put2_E.2) hR
          exact ⟨nI (ms.length - 1), 5, 200, fun M' => w_R up lf wm wc ws (ms.eraseIdx k) C W L sc tb hm ru pu M' ∧ lo_E (fm_put2 M0 629 0 (nI (ms.length - 1)).toInt64) M' ∧ M'.1 586 0 = nI 0, by decide, by decide, by rw [e1, e2]; exact wr_lose hR1 (wA_wf hA) hm0 hok, fun M' h => ⟨h.2.2, fun _ => by rw [(h.2.1 629 (Or.inr (by decide))).2.1]; exact put2_w, ⟨up, lf, wm, wc, ws, ms.eraseIdx k, C, W, L, sc, tb, FC, FV, mt, hm, ru, pu, wC_lo (fun q a => h.2.1 q (Or.inl a)) (wC_lo put2_E.1 hc0), h.1, wA_ms2 hA (gi_sub hA.1 (fun q w => List.mem_of_mem_eraseIdx w))⟩⟩⟩
      · by_cases h20 : ms.length < 20
        · refine lw_net (B := w_W) hc hex hX hxl hxb hlen hi (k := nI 0) (PA := fun M' => ∃ M1, (w_C up lf wm wc ws (ms ++ [m0]) C W L sc tb FC FV mt M1 ∧ hi_E M M1) ∧ M' = fm_put2 M1 629 0 (nI (ms.length + 1)).toInt64) (fr1 := 11) (lo1 := 423) (by decide) (by decide) hz ?_ ?_ kk
          · rw [e1, e2]; exact k_net_ok (rm0 := { frames := 10, cells := 1, slots := 6, locals := 400 }) (PM := fun M' => w_C up lf wm wc ws (ms ++ [m0]) C W L sc tb FC FV mt M' ∧ hi_E M M') (wc_double htr hC hm0 h20 hb.1)
          · intro M1 hM1
            obtain ⟨M0, ⟨hc0, he0⟩, rfl⟩ := hM1
            have hR1 : w_R up lf wm wc ws ms C W L sc tb hm ru pu (fm_put2 M0 629 0 (nI (ms.length + 1)).toInt64) := wR_hi (hiE_tr he0 put2_E.2) hR
            exact ⟨nI (ms.length + 1), 5, 200, fun M' => w_R up lf wm wc ws (ms ++ [m0]) C W L sc tb hm ru pu M' ∧ lo_E (fm_put2 M0 629 0 (nI (ms.length + 1)).toInt64) M' ∧ M'.1 586 0 = nI 0, by decide, by decide, by rw [e1, e2]; exact wr_double hR1 (wA_wf hA) hm0 hok h20, fun M' h => ⟨h.2.2, fun _ => by rw [(h.2.1 629 (Or.inr (by decide))).2.1]; exact put2_w, ⟨up, lf, wm, wc, ws, ms ++ [m0], C, W, L, sc, tb, FC, FV, mt, hm, ru, pu, wC_lo (fun q a => h.2.1 q (Or.inl a)) (wC_lo put2_E.1 hc0), h.1, wA_ms2 hA (gi_sub hA.1 (fun q w => (List.mem_append.mp w).elim id (fun g => by rw [List.mem_singleton.mp g]; exact List.mem_of_getElem? hm0)))⟩⟩⟩
        · have h20e : ms.length = 20 := by omega
          refine lw_net (B := w_W) hc hex hX hxl hxb hlen hi (k := nI 3) (PA := fun M' => M' = M) (fr1 := 7) (lo1 := 113) (by decide) (by decide) hz ?_ ?_ kk
          · rw [e1, e2]; exact k_net_x3 (rm0 := { frames := 6, cells := 1, slots := 6, locals := 90 }) (x_net_full htr (by decide) hC.1.1 (by omega) (by rw [hw1.1, h20e]))
          · intro M1 hM1
            rw [hM1]
            exact ⟨nI 0, 1, 30, fun M' => M' = fm_put1 M 586 0 (nI 3), by decide, by decide, by rw [e1, e2]; exact r_net_full (by decide) hR.1 (by omega) (by rw [hR.2.2.1.1, h20e]), fun M' h => ⟨by rw [h]; exact p1_same _ _ _ _, fun g => absurd g (by decide), by rw [h]; exact wW_t hWW⟩⟩
    · rcases wi02 hw with e2 | e2 | e2
      · refine lw_net (B := w_W) hc hex hX hxl hxb hlen hi (k := nI 2) (PA := fun M' => M' = M) (fr1 := 7) (lo1 := 113) (by decide) (by decide) hz ?_ ?_ kk
        · rw [e2]; exact k_net_x2 (rm0 := { frames := 6, cells := 1, slots := 6, locals := 90 }) (x_net_out0 htr (by decide) hC.1.1 (by rw [hw1.1]; exact hv))
        · intro M1 hM1
          rw [hM1]
          exact ⟨nI 0, 1, 22, fun M' => M' = fm_put1 M 586 0 (nI 2), by decide, by decide, by rw [e2]; exact r_net_out (by decide) hR.1 ⟨by decide, by decide⟩ (by rw [hR.2.2.1.1]; exact wi_len (by omega) hv), fun M' h => ⟨by rw [h]; exact p1_same _ _ _ _, fun g => absurd g (by decide), by rw [h]; exact wW_t hWW⟩⟩
      · refine lw_net (B := w_W) hc hex hX hxl hxb hlen hi (k := nI 2) (PA := fun M' => M' = M) (fr1 := 7) (lo1 := 113) (by decide) (by decide) hz ?_ ?_ kk
        · rw [e2]; exact k_net_x2 (rm0 := { frames := 6, cells := 1, slots := 6, locals := 90 }) (x_net_out1 htr (by decide) hC.1.1 (by rw [hw1.1]; exact hv))
        · intro M1 hM1
          rw [hM1]
          exact ⟨nI 0, 1, 22, fun M' => M' = fm_put1 M 586 0 (nI 2), by decide, by decide, by rw [e2]; exact r_net_out (by decide) hR.1 ⟨by decide, by decide⟩ (by rw [hR.2.2.1.1]; exact wi_len (by omega) hv), fun M' h => ⟨by rw [h]; exact p1_same _ _ _ _, fun g => absurd g (by decide), by rw [h]; exact wW_t hWW⟩⟩
      · refine lw_net (B := w_W) hc hex hX hxl hxb hlen hi (k := nI 2) (PA := fun M' => M' = M) (fr1 := 7) (lo1 := 113) (by decide) (by decide) hz ?_ ?_ kk
        · rw [e2]; exact k_net_x2 (rm0 := { frames := 6, cells := 1, slots := 6, locals := 90 }) (x_net_out2 htr (by decide) hC.1.1 (by rw [hw1.1]; exact hv))
        · intro M1 hM1
          rw [hM1]
          exact ⟨nI 0, 1, 22, fun M' => M' = fm_put1 M 586 0 (nI 2), by decide, by decide, by rw [e2]; exact r_net_out (by decide) hR.1 ⟨by decide, by decide⟩ (by rw [hR.2.2.1.1]; exact wi_len (by omega) hv), fun M' h => ⟨by rw [h]; exact p1_same _ _ _ _, fun g => absurd g (by decide), by rw [h]; exact wW_t hWW⟩⟩
theorem g_launch (htr : l.stackTraces = false) (hc : fm_Cx p s m args meth c fm_cl b D 7 b_Lw_law "AgentNetLaw" fm_T0 (fm_tys dA)) (hex : fm_EX b x s) (hX : va_X (x 0) len f s s.heap) (hxl : x 0 < s.heap.size) (hxb : x 0 < b) (hlen : len < 2 ^ 31) (hi : i + 5 ≤ len) (hz : z.1 + 1 ≤ room_1.cells ∧ z.2 + 6 ≤ room_1.slots) (hW : w_W M) (kk : ∀ M', w_W M' → fm_G p l e room_1 s m args below meth c Q fm_lay fm_nf fm_fk fm_cl b x D dA 7 1091 [(4, .int (nI i)), (3, .ref 629), (2, .ref 586), (1, .ref 8), (0, .ref 0)] [] 630 M' (z.1 + 1, z.2 + 6)) : fm_G p l e room_1 s m args below meth c Q fm_lay fm_nf fm_fk fm_cl b x D dA 7 258 [(4, .int (nI i)), (3, .ref 629), (2, .ref 586), (1, .ref 8), (0, .ref 0)] [] 630 M z := by
  have hWW := hW
  obtain ⟨up, lf, wm, wc, ws, ms, C, W, L, sc, tb, FC, FV, mt, hm, ru, pu, hC, hR, hA⟩ := hW
  by_cases hv : fm_in 4 (f (i + 1))
  · by_cases hw : fm_in 4 (f (i + 2))
    · by_cases hu3 : fm_wi (f (i + 3)) (nI 1) (nI 200)
      · obtain ⟨j, hj, e1⟩ := in4_to hv
        obtain ⟨p0, hp0, e2⟩ := in4_to hw
        obtain ⟨q, hq1, hq2, e3⟩ := wi_to (a := 1) (b := 200) (by decide) (by decide) hu3
        have hu01 := (hA.2.1 j).1
        obtain ⟨pa, pb, pc, hT⟩ := hC.2.1 j hj
        have hT : cw_T j (up j) (lf j) (wm j) (wc j) (ws j) M pa pb pc := hT
        have hRj := hR.2.1 j hj
        have hpa := cwO_M hj hT.1
        have hlo := isM_lo hpa
        rcases (show up j = 0 ∨ up j = 1 by omega) with hu | hu
        · refine lw_launch (B := w_W) hc hex hX hxl hxb hlen hi (k := nI 2) (PA := fun M' => M' = M) (fr1 := 7) (lo1 := 115) (by decide) (by decide) hz ?_ ?_ kk
          · rw [e1]; exact k_launch_x2 (rm0 := { frames := 6, cells := 1, slots := 6, locals := 90 }) (x_launch_down htr hj (by decide) hC.1.1 hw (le_of_wi hu3) (by rw [hT.2.2.2.2.2.2.2.2.2.2.1, hu]; rfl))
          · intro M1 hM1
            rw [hM1]
            exact ⟨nI 0, 1, 22, fun M' => M' = fm_put1 M 586 0 (nI 2), by decide, by decide, by rw [e1]; exact r_launch_down (by decide) hR.1 hj hw hu3 (by rw [hRj.1, hu]; rfl), fun M' h => ⟨by rw [h]; exact p1_same _ _ _ _, fun g => absurd g (by decide), by rw [h]; exact wW_t hWW⟩⟩
        · have hL4 : L ≤ 4 := by obtain ⟨⟨_, _, _, q⟩, -⟩ := hA; exact q.2.2.1.1
          by_cases hL : L < 4
          · have hfc := ((hA.2.2.2 L (by omega)).1 (by omega)).2
            have hfc4 := ((hA.2.2.2 (L + 4) (by omega)).1 (by omega)).2
            have hunk := wA_unk hA hL j
            have hwi : fm_wi (nI q) (nI 1) (nI 200) := by rw [← e3]; exact hu3
            refine lw_launch (B := w_W) hc hex hX hxl hxb hlen hi (k := nI 0) (PA := fun M' => ∃ M1, (w_C up lf (va_up wm j (am_lau L (ag_new L p0 q) (wm j))) wc ws ms C W (L + 1) sc tb (fo_C FC L (fa_run (sc p0) tb 200 (ag_new L p0 q) j [] none).1 (fo_2 (sc p0) tb (fa_run (sc p0) tb 200 (ag_new L p0 q) j [] none).2)) (fo_V FV L (fa_run (sc p0) tb 200 (ag_new L p0 q) j [] none).1 (fo_2 (sc p0) tb (fa_run (sc p0) tb 200 (ag_new L p0 q) j [] none).2)) (fo_M mt L (fo_2 (sc p0) tb (fa_run (sc p0) tb 200 (ag_new L p0 q) j [] none).2)) M1 ∧ hi_E M M1) ∧ M' = fm_put2 M1 629 0 (nI L).toInt64) (fr1 := 11) (lo1 := 425) (by decide) (by decide) hz ?_ ?_ kk
            · rw [e1, e2, e3]; exact k_launch_ok (rm0 := { frames := 10, cells := 1, slots := 6, locals := 400 }) (PM := fun M' => w_C up lf (va_up wm j (am_lau L (ag_new L p0 q) (wm j))) wc ws ms C W (L + 1) sc tb (fo_C FC L (fa_run (sc p0) tb 200 (ag_new L p0 q) j [] none).1 (fo_2 (sc p0) tb (fa_run (sc p0) tb 200 (ag_new L p0 q) j [] none).2)) (fo_V FV L (fa_run (sc p0) tb 200 (ag_new L p0 q) j [] none).1 (fo_2 (sc p0) tb (fa_run (sc p0) tb 200 (ag_new L p0 q) j [] none).2)) (fo_M mt L (fo_2 (sc p0) tb (fa_run (sc p0) tb 200 (ag_new L p0 q) j [] none).2)) M' ∧ hi_E M M') (wc_launch htr hC hj hL hp0 hq1 hq2 hu hunk.1 hunk.2 hfc hfc4)
            · intro M1 hM1
              obtain ⟨M0, ⟨hc0, he0⟩, rfl⟩ := hM1
              have hR1 : w_R up lf wm wc ws ms C W L sc tb hm ru pu (fm_put2 M0 629 0 (nI L).toInt64) := wR_hi (hiE_tr he0 put2_E.2) hR
              exact ⟨nI L, 1, 30, fun M' => w_R up lf (va_up wm j (am_lau L (ag_new L p0 q) (wm j))) wc ws ms C W (L + 1) sc tb (va_up hm L j) (va_up ru L p0) (va_up pu L q) M' ∧ lo_E (fm_put2 M0 629 0 (nI L).toInt64) M' ∧ M'.1 586 0 = nI 0, by decide, by decide, by rw [e1, e2, e3]; exact wr_launch hR1 (wA_wf hA) hj hL hp0 hwi hu, fun M' h => ⟨h.2.2, fun _ => by rw [(h.2.1 629 (Or.inr (by decide))).2.1]; exact put2_w, ⟨up, lf, va_up wm j (am_lau L (ag_new L p0 q) (wm j)), wc, ws, ms, C, W, L + 1, sc, tb, fo_C FC L (fa_run (sc p0) tb 200 (ag_new L p0 q) j [] none).1 (fo_2 (sc p0) tb (fa_run (sc p0) tb 200 (ag_new L p0 q) j [] none).2), fo_V FV L (fa_run (sc p0) tb 200 (ag_new L p0 q) j [] none).1 (fo_2 (sc p0) tb (fa_run (sc p0) tb 200 (ag_new L p0 q) j [] none).2), fo_M mt L (fo_2 (sc p0) tb (fa_run (sc p0) tb 200 (ag_new L p0 q) j [] none).2), va_up hm L j, va_up ru L p0, va_up pu L q, wC_lo (fun q a => h.2.1 q (Or.inl a)) (wC_lo put2_E.1 hc0), h.1, wA_launch hA hj hL hp0 hq2 hu⟩⟩⟩
          · have hLe : L = 4 := by omega
            refine lw_launch (B := w_W) hc hex hX hxl hxb hlen hi (k := nI 2) (PA := fun M' => M' = M) (fr1 := 7) (lo1 := 115) (by decide) (by decide) hz ?_ ?_ kk
            · rw [e1, e2]; exact k_launch_x2 (rm0 := { frames := 6, cells := 1, slots := 6, locals := 90 }) (x_launch_four htr (by decide) hC.1.1 hj hp0 (le_of_wi hu3) (cwT_u hT hu) (by rw [hC.2.2.2.2.2.1, hLe]))
            · intro M1 hM1
              rw [hM1]
              exact ⟨nI 0, 1, 30, fun M' => M' = fm_put1 (fm_put1 M 586 0 (nI 0)) 586 0 (nI 2), by decide, by decide, by rw [e1, e2]; exact r_launch_four (by decide) hR.1 hj hp0 hu3 (rfS_u hRj hu) (by rw [hR.2.2.2.2.1, hLe]), fun M' h => ⟨by rw [h]; exact p1_same _ _ _ _, fun g => absurd g (by decide), by rw [h]; exact wW_t (wW_t hWW)⟩⟩
      · refine lw_launch (B := w_W) hc hex hX hxl hxb hlen hi (k := nI 1) (PA := fun M' => M' = M) (fr1 := 7) (lo1 := 115) (by decide) (by decide) hz ?_ ?_ kk
        · exact k_launch_x1 (rm0 := { frames := 6, cells := 1, slots := 6, locals := 90 }) (x_launch_bad htr (fun h => hu3 (wi_of_le h.2.2)))
        · intro M1 hM1
          rw [hM1]
          exact ⟨nI 0, 1, 22, fun M' => M' = fm_put1 M 586 0 (nI 1), by decide, by decide, by exact r_launch_bad3 (by decide) hR.1 hv hw hu3, fun M' h => ⟨by rw [h]; exact p1_same _ _ _ _, fun g => absurd g (by decide), by rw [h]; exact wW_t hWW⟩⟩
    · refine lw_launch (B := w_W) hc hex hX hxl hxb hlen hi (k := nI 1) (PA := fun M' => M' = M) (fr1 := 7) (lo1 := 115) (by decide) (by decide) hz ?_ ?_ kk
      · exact k_launch_x1 (rm0 := { frames := 6, cells := 1, slots := 6, locals := 90 }) (x_launch_bad htr (fun h => hw h.2.1))
      · intro M1 hM1
        rw [hM1]
        exact ⟨nI 0, 1, 22, fun M' => M' = fm_put1 M 586 0 (nI 1), by decide, by decide, by exact r_launch_bad2 (by decide) hR.1 hv hw, fun M' h => ⟨by rw [h]; exact p1_same _ _ _ _, fun g => absurd g (by decide), by rw [h]; exact wW_t hWW⟩⟩
  · refine lw_launch (B := w_W) hc hex hX hxl hxb hlen hi (k := nI 1) (PA := fun M' => M' = M) (fr1 := 7) (lo1 := 115) (by decide) (by decide) hz ?_ ?_ kk
    · exact k_launch_x1 (rm0 := { frames := 6, cells := 1, slots := 6, locals := 90 }) (x_launch_bad htr (fun h => hv h.1))
    · intro M1 hM1
      rw [hM1]
      exact ⟨nI 0, 1, 22, fun M' => M' = fm_put1 M 586 0 (nI 1), by decide, by decide, by exact r_launch_bad1 (by decide) hR.1 hv, fun M' h => ⟨by rw [h]; exact p1_same _ _ _ _, fun g => absurd g (by decide), by rw [h]; exact wW_t hWW⟩⟩
end LWJ
