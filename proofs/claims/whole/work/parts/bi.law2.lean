/-! THE LAW'S CASES in any world: host, sealed, outputs -/
theorem hcM_s {M : fm_M} {p a : Nat} {x : am_T} (h : hc_M M p x) (ha : a < 8) : M.1 (p + 1) a = nI (x.1 a) ∧ M.1 (p + 2) a = x.2.1 a ∧ M.1 (p + 4) a = x.2.2.2.1 a ∧ (x.1 a ≠ 0 → hc_A M (p + (9 + 4 * a)) (x.2.2.2.2.1 a)) := by
  obtain ⟨S, K, O, T, G, H, V, D⟩ := x
  exact ⟨h.1 a ha, h.2.1 a ha, h.2.2.2.1 a ha, h.2.2.2.2.2.2 a ha⟩
theorem hrM_s {M : fm_M} {b0 a : Nat} {x : am_T} (h : hr_M M b0 x) (ha : a < 8) : M.1 597 (b0 + a) = nI (x.1 a) ∧ M.1 599 (b0 + a) = x.2.1 a ∧ M.1 601 (b0 + a) = x.2.2.2.1 a ∧ (x.1 a ≠ 0 → ∃ g, hr_G M (b0 + a) F_m (x.2.2.2.2.1 a) g) := by
  obtain ⟨S, K, O, T, G, H, V, D⟩ := x
  exact ⟨h.1 a ha, h.2.2.1 a ha, h.2.2.2.2.1 a ha, h.2.2.2.2.2.2.2.2 a ha⟩
theorem wfs_s {x : am_T} {a : Nat} (h : am_wfs x) (ha : a < 8) : x.1 a ≤ 4 ∧ (x.1 a ≠ 0 → ag_wf a (x.2.2.2.2.1 a)) := by
  obtain ⟨S, K, O, T, G, H, V, D⟩ := x
  exact ⟨h.1 a ha, h.2 a ha⟩
theorem bit_lo {c k : Nat} (hc : c ≤ 16) (hk : k < 16) : ((bw_lo c >>> (nI k &&& 31)) &&& nI 1) = 0 ↔ ¬ k < c := by
  rw [bw_bit (bw_loH hc) hk]
  simp
section LWI
variable {p : Program} {l : Launch} {e : Env} {s : State} {m : MethodId} {args : Array Value} {below : List Frame} {meth : Method} {c : Code} {Q : State → Prop}
variable {b : Nat} {x : Nat → Nat} {D : va_G} {dA : Nat → ClassId} {z : Nat × Nat} {f : Nat → Int32} {i len : Nat} {M : fm_M}
theorem g_host (htr : l.stackTraces = false) (hc : fm_Cx p s m args meth c fm_cl b D 7 b_Lw_law "AgentNetLaw" fm_T0 (fm_tys dA)) (hex : fm_EX b x s) (hX : va_X (x 0) len f s s.heap) (hxl : x 0 < s.heap.size) (hxb : x 0 < b) (hlen : len < 2 ^ 31) (hi : i + 5 ≤ len) (hz : z.1 + 0 ≤ room_1.cells ∧ z.2 + 0 ≤ room_1.slots) (hW : w_W M) (kk : ∀ M', w_W M' → fm_G p l e room_1 s m args below meth c Q fm_lay fm_nf fm_fk fm_cl b x D dA 7 1091 [(4, .int (nI i)), (3, .ref 629), (2, .ref 586), (1, .ref 8), (0, .ref 0)] [] 630 M' z) : fm_G p l e room_1 s m args below meth c Q fm_lay fm_nf fm_fk fm_cl b x D dA 7 903 [(4, .int (nI i)), (3, .ref 629), (2, .ref 586), (1, .ref 8), (0, .ref 0)] [] 630 M z := by
  have hWW := hW
  obtain ⟨up, lf, wm, wc, ws, ms, C, W, L, sc, tb, FC, FV, mt, hm, ru, pu, hC, hR, hA⟩ := hW
  by_cases hv : fm_in 4 (f (i + 1))
  · obtain ⟨j, hj, e1⟩ := in4_to hv
    by_cases hw : fm_wi (f (i + 2)) (nI 0) (nI 17)
    · obtain ⟨k, hk0, hk, e2⟩ := wi_to (a := 0) (b := 17) (by decide) (by decide) hw
      have hu01 := (hA.2.1 j).1
      obtain ⟨pa, pb, pc, hT⟩ := hC.2.1 j hj
      have hT : cw_T j (up j) (lf j) (wm j) (wc j) (ws j) M pa pb pc := hT
      have hRj := hR.2.1 j hj
      have hpa := cwO_M hj hT.1
      have hlo := isM_lo hpa
      rcases (show up j = 0 ∨ up j = 1 by omega) with hu | hu
      · rcases (show k = 0 ∨ k = 1 ∨ (2 ≤ k ∧ k < 10) ∨ (10 ≤ k ∧ k < 18) by omega) with rfl | rfl | ⟨h1, h2⟩ | ⟨h1, h2⟩
        · refine lw_host (B := w_W) hc hex hX hxl hxb hlen hi (t := nI 0) (PA := fun M' => M' = M) (fr1 := 1) (lo1 := 21) (by decide) (by decide) hz ?_ ?_ kk
          · rw [e1, e2]; exact c_host_ok (by decide) hC.1.1 hj (t_tell_up0 (by decide) hj (by rw [hT.2.2.2.2.2.2.2.2.2.2.1, hu]; rfl))
          · intro M1 hM1
            rw [hM1]
            exact ⟨1, 22, _, by decide, by decide, by rw [e1, e2]; exact r_host_up0 (by decide) hR.1 hj (by rw [hRj.1, hu]; rfl), fun M' h => by rw [h]; exact wW_t hWW⟩
        · refine lw_host (B := w_W) hc hex hX hxl hxb hlen hi (t := nI (lf j)) (PA := fun M' => M' = M) (fr1 := 1) (lo1 := 21) (by decide) (by decide) hz ?_ ?_ kk
          · rw [e1, e2]; have h9 := c_host_ok (l := l) (b := b) (x := x) (D := D) (dA := dA) (n := 630) (by decide) hC.1.1 hj (t_tell_left (by decide) hj); rw [hT.2.2.2.2.2.2.2.2.2.2.2.1] at h9; exact h9
          · intro M1 hM1
            rw [hM1]
            exact ⟨1, 22, _, by decide, by decide, by rw [e1, e2]; have h9 := r_host_left (l := l) (b := b) (x := x) (D := D) (dA := dA) (n := 630) (by decide) hR.1 hj; rw [hRj.2.1] at h9; exact h9, fun M' h => by rw [h]; exact wW_t hWW⟩
        · refine lw_host (B := w_W) hc hex hX hxl hxb hlen hi (t := -1) (PA := fun M' => M' = M) (fr1 := 1) (lo1 := 21) (by decide) (by decide) hz ?_ ?_ kk
          · rw [e1, e2]; exact c_host_ok (by decide) hC.1.1 hj (t_tell_down (by decide) hj (fun q => absurd (nI_inj (c := 0) (by omega) (by decide) q) (by omega)) (hnno (by omega) (by omega) (by decide)) (by rw [hT.2.2.2.2.2.2.2.2.2.2.1, hu]; rfl))
          · intro M1 hM1
            rw [hM1]
            exact ⟨1, 22, _, by decide, by decide, by rw [e1, e2]; exact r_host_down (by decide) hR.1 hj (by omega) (by omega) (by rw [hRj.1, hu]; rfl), fun M' h => by rw [h]; exact wW_t hWW⟩
        · refine lw_host (B := w_W) hc hex hX hxl hxb hlen hi (t := -1) (PA := fun M' => M' = M) (fr1 := 1) (lo1 := 21) (by decide) (by decide) hz ?_ ?_ kk
          · rw [e1, e2]; exact c_host_ok (by decide) hC.1.1 hj (t_tell_down (by decide) hj (fun q => absurd (nI_inj (c := 0) (by omega) (by decide) q) (by omega)) (hnno (by omega) (by omega) (by decide)) (by rw [hT.2.2.2.2.2.2.2.2.2.2.1, hu]; rfl))
          · intro M1 hM1
            rw [hM1]
            exact ⟨1, 22, _, by decide, by decide, by rw [e1, e2]; exact r_host_down (by decide) hR.1 hj (by omega) (by omega) (by rw [hRj.1, hu]; rfl), fun M' h => by rw [h]; exact wW_t hWW⟩
      · rcases (show k = 0 ∨ k = 1 ∨ (2 ≤ k ∧ k < 10) ∨ (10 ≤ k ∧ k < 18) by omega) with rfl | rfl | ⟨h1, h2⟩ | ⟨h1, h2⟩
        · refine lw_host (B := w_W) hc hex hX hxl hxb hlen hi (t := nI 1) (PA := fun M' => M' = M) (fr1 := 1) (lo1 := 21) (by decide) (by decide) hz ?_ ?_ kk
          · rw [e1, e2]; exact c_host_ok (by decide) hC.1.1 hj (t_tell_up1 (by decide) hj (cwT_u hT hu))
          · intro M1 hM1
            rw [hM1]
            exact ⟨1, 22, _, by decide, by decide, by rw [e1, e2]; exact r_host_up1 (by decide) hR.1 hj (rfS_u hRj hu), fun M' h => by rw [h]; exact wW_t hWW⟩
        · refine lw_host (B := w_W) hc hex hX hxl hxb hlen hi (t := nI (lf j)) (PA := fun M' => M' = M) (fr1 := 1) (lo1 := 21) (by decide) (by decide) hz ?_ ?_ kk
          · rw [e1, e2]; have h9 := c_host_ok (l := l) (b := b) (x := x) (D := D) (dA := dA) (n := 630) (by decide) hC.1.1 hj (t_tell_left (by decide) hj); rw [hT.2.2.2.2.2.2.2.2.2.2.2.1] at h9; exact h9
          · intro M1 hM1
            rw [hM1]
            exact ⟨1, 22, _, by decide, by decide, by rw [e1, e2]; have h9 := r_host_left (l := l) (b := b) (x := x) (D := D) (dA := dA) (n := 630) (by decide) hR.1 hj; rw [hRj.2.1] at h9; exact h9, fun M' h => by rw [h]; exact wW_t hWW⟩
        · refine lw_host (B := w_W) hc hex hX hxl hxb hlen hi (t := (wm j).2.2.2.1 (k - 2)) (PA := fun M' => M' = M) (fr1 := 1) (lo1 := 21) (by decide) (by decide) hz ?_ ?_ kk
          · rw [e1, e2]; have h9 := c_host_ok (l := l) (b := b) (x := x) (D := D) (dA := dA) (n := 630) (by decide) hC.1.1 hj (t_tell_note (by decide) hj h1 h2 (cwT_u hT hu) hT.2.2.2.2.2.2.1 (by omega) (by omega) (ly_M0 hpa) (hC.1.2.2.2.2 pa hpa).2.2.2.1 (by omega) (by omega) (ly_M hpa (k := 4) (by omega))); rw [(hcM_s (hT.2.2.2.2.2.2.2.2.2.2.2.2.1 hu) (by omega)).2.2.1] at h9; exact h9
          · intro M1 hM1
            rw [hM1]
            exact ⟨1, 22, _, by decide, by decide, by rw [e1, e2]; have h9 := r_host_note (l := l) (b := b) (x := x) (D := D) (dA := dA) (n := 630) (by decide) hR.1 hj h1 h2 (rfS_u hRj hu); rw [show 24 * j + k - 2 = 24 * j + (k - 2) by omega, (hrM_s (hRj.2.2.1 hu) (by omega)).2.2.1] at h9; exact h9, fun M' h => by rw [h]; exact wW_t hWW⟩
        · refine lw_host (B := w_W) hc hex hX hxl hxb hlen hi (t := (wm j).2.1 (k - 10)) (PA := fun M' => M' = M) (fr1 := 1) (lo1 := 21) (by decide) (by decide) hz ?_ ?_ kk
          · rw [e1, e2]; have h9 := c_host_ok (l := l) (b := b) (x := x) (D := D) (dA := dA) (n := 630) (by decide) hC.1.1 hj (t_tell_known (by decide) hj h1 h2 (cwT_u hT hu) hT.2.2.2.2.2.2.1 (by omega) (by omega) (ly_M0 hpa) (hC.1.2.2.2.2 pa hpa).2.1 (by omega) (by omega) (ly_M hpa (k := 2) (by omega))); rw [(hcM_s (hT.2.2.2.2.2.2.2.2.2.2.2.2.1 hu) (by omega)).2.1] at h9; exact h9
          · intro M1 hM1
            rw [hM1]
            exact ⟨1, 22, _, by decide, by decide, by rw [e1, e2]; have h9 := r_host_known (l := l) (b := b) (x := x) (D := D) (dA := dA) (n := 630) (by decide) hR.1 hj h1 h2 (rfS_u hRj hu); rw [show 24 * j + k - 10 = 24 * j + (k - 10) by omega, (hrM_s (hRj.2.2.1 hu) (by omega)).2.1] at h9; exact h9, fun M' h => by rw [h]; exact wW_t hWW⟩
    · have n0 : ¬ f (i + 2) = 0 := fun g => hw (by rw [g]; exact ⟨by decide, by decide⟩)
      have n1 : ¬ f (i + 2) = nI 1 := fun g => hw (by rw [g]; exact ⟨by decide, by decide⟩)
      have hu01 := (hA.2.1 j).1
      obtain ⟨pa, pb, pc, hT⟩ := hC.2.1 j hj
      have hT : cw_T j (up j) (lf j) (wm j) (wc j) (ws j) M pa pb pc := hT
      have hRj := hR.2.1 j hj
      have hpa := cwO_M hj hT.1
      have hlo := isM_lo hpa
      rcases (show up j = 0 ∨ up j = 1 by omega) with hu | hu
      · refine lw_host (B := w_W) hc hex hX hxl hxb hlen hi (t := -1) (PA := fun M' => M' = M) (fr1 := 1) (lo1 := 21) (by decide) (by decide) hz ?_ ?_ kk
        · rw [e1]; exact c_host_ok (by decide) hC.1.1 hj (t_tell_down (by decide) hj n0 n1 (by rw [hT.2.2.2.2.2.2.2.2.2.2.1, hu]; rfl))
        · intro M1 hM1
          rw [hM1]
          exact ⟨1, 22, _, by decide, by decide, by rw [e1]; exact r_host_out (by decide) hR.1 hj hw, fun M' h => by rw [h]; exact wW_t hWW⟩
      · by_cases g : f (i + 2) < nI 2
        · refine lw_host (B := w_W) hc hex hX hxl hxb hlen hi (t := -1) (PA := fun M' => M' = M) (fr1 := 1) (lo1 := 21) (by decide) (by decide) hz ?_ ?_ kk
          · rw [e1]; exact c_host_ok (by decide) hC.1.1 hj (t_tell_low (by decide) hj n0 n1 g (cwT_u hT hu))
          · intro M1 hM1
            rw [hM1]
            exact ⟨1, 22, _, by decide, by decide, by rw [e1]; exact r_host_out (by decide) hR.1 hj hw, fun M' h => by rw [h]; exact wW_t hWW⟩
        · refine lw_host (B := w_W) hc hex hX hxl hxb hlen hi (t := -1) (PA := fun M' => M' = M) (fr1 := 1) (lo1 := 21) (by decide) (by decide) hz ?_ ?_ kk
          · rw [e1]; exact c_host_ok (by decide) hC.1.1 hj (t_tell_high (by decide) hj n0 n1 g (not18 g hw) (cwT_u hT hu))
          · intro M1 hM1
            rw [hM1]
            exact ⟨1, 22, _, by decide, by decide, by rw [e1]; exact r_host_out (by decide) hR.1 hj hw, fun M' h => by rw [h]; exact wW_t hWW⟩
  · refine lw_host (B := w_W) hc hex hX hxl hxb hlen hi (t := -1) (PA := fun M' => M' = M) (fr1 := 1) (lo1 := 20) (by decide) (by decide) hz ?_ ?_ kk
    · exact c_host_bad (by decide) hC.1.1 hv
    · intro M1 hM1
      rw [hM1]
      exact ⟨1, 22, _, by decide, by decide, by exact r_host_bad (by decide) hR.1 hv, fun M' h => by rw [h]; exact wW_t hWW⟩
theorem g_sealed (htr : l.stackTraces = false) (hc : fm_Cx p s m args meth c fm_cl b D 7 b_Lw_law "AgentNetLaw" fm_T0 (fm_tys dA)) (hex : fm_EX b x s) (hX : va_X (x 0) len f s s.heap) (hxl : x 0 < s.heap.size) (hxb : x 0 < b) (hlen : len < 2 ^ 31) (hi : i + 5 ≤ len) (hz : z.1 + 0 ≤ room_1.cells ∧ z.2 + 0 ≤ room_1.slots) (hW : w_W M) (kk : ∀ M', w_W M' → fm_G p l e room_1 s m args below meth c Q fm_lay fm_nf fm_fk fm_cl b x D dA 7 1091 [(4, .int (nI i)), (3, .ref 629), (2, .ref 586), (1, .ref 8), (0, .ref 0)] [] 630 M' z) : fm_G p l e room_1 s m args below meth c Q fm_lay fm_nf fm_fk fm_cl b x D dA 7 940 [(4, .int (nI i)), (3, .ref 629), (2, .ref 586), (1, .ref 8), (0, .ref 0)] [] 630 M z := by
  have hWW := hW
  obtain ⟨up, lf, wm, wc, ws, ms, C, W, L, sc, tb, FC, FV, mt, hm, ru, pu, hC, hR, hA⟩ := hW
  by_cases hv : fm_in 8 (f (i + 1))
  · obtain ⟨k, hk, e1⟩ := in8_to hv
    have ex : ∀ q, ∃ pq, q < 4 → cw_O q pq ∧ M.2.2 (90 + 124 * q) 4 = some pq ∧ hc_M M pq (ws q) := fun q => by
      by_cases hq : q < 4
      · obtain ⟨pa, pb, pc, hT⟩ := hC.2.1 q hq
        exact ⟨pb, fun _ => ⟨hT.2.1, hT.2.2.2.2.2.2.2.1, hT.2.2.2.2.2.2.2.2.2.2.2.2.2.1⟩⟩
      · exact ⟨0, fun h => absurd h hq⟩
    obtain ⟨mf, hmf⟩ := Classical.axiomOfChoice ex
    have hop : ∀ q, q < 4 → (ws q).1 k ≠ 0 → ((ws q).2.2.2.2.1 k).1 4 ≤ 900 := fun q hq h0 => by
      have := ((wfs_s (wA_wf hA q).2.2 hk).2 h0).2.2.2.2.2.1
      omega
    refine lw_sealed (B := w_W) hc hex hX hxl hxb hlen hi (t := sx_A (fun q => (ws q).1 k) (fun q => ((ws q).2.2.2.2.1 k).1 4)) (PA := fun M' => M' = M) (fr1 := 1) (lo1 := 30) (by decide) (by decide) hz ?_ ?_ kk
    · rw [e1]; exact c_sealed_ok (mf := mf) (sl := fun q => (ws q).1 k) (hp := fun q => ((ws q).2.2.2.2.1 k).1 4) (by decide) hC.1.1 hk (fun q hq => cwO_M hq (hmf q hq).1) (fun q hq => (hmf q hq).2.1) (fun q hq => hC.1.2.2.2.2 _ (cwO_M hq (hmf q hq).1)) (fun q hq => (hcM_s (hmf q hq).2.2 hk).1) (fun q hq => (wfs_s (wA_wf hA q).2.2 hk).1) (fun q hq h0 => ((hcM_s (hmf q hq).2.2 hk).2.2.2 h0).1 4 (by decide)) hop
    · intro M1 hM1
      rw [hM1]
      exact ⟨1, 30, _, by decide, by decide, by rw [e1]; exact r_sealed_ok (sl := fun q => (ws q).1 k) (hp := fun q => ((ws q).2.2.2.2.1 k).1 4) (by decide) hR.1 hk (fun q hq => (hrM_s (hR.2.1 q hq).2.2.2.1 hk).1) (fun q hq => (wfs_s (wA_wf hA q).2.2 hk).1) (fun q hq h0 => by obtain ⟨g, hg⟩ := (hrM_s (hR.2.1 q hq).2.2.2.1 hk).2.2.2 h0; exact hg.1 4 (by decide) (by decide) trivial) hop, fun M' h => by rw [h]; exact wW_t hWW⟩
  · refine lw_sealed (B := w_W) hc hex hX hxl hxb hlen hi (t := -1) (PA := fun M' => M' = M) (fr1 := 1) (lo1 := 20) (by decide) (by decide) hz ?_ ?_ kk
    · exact c_sealed_bad (by decide) hC.1.1 hv
    · intro M1 hM1
      rw [hM1]
      exact ⟨1, 22, _, by decide, by decide, by exact r_sealed_bad (by decide) hR.1 hv, fun M' h => by rw [h]; exact wW_t hWW⟩
theorem g_outputs (htr : l.stackTraces = false) (hc : fm_Cx p s m args meth c fm_cl b D 7 b_Lw_law "AgentNetLaw" fm_T0 (fm_tys dA)) (hex : fm_EX b x s) (hX : va_X (x 0) len f s s.heap) (hxl : x 0 < s.heap.size) (hxb : x 0 < b) (hlen : len < 2 ^ 31) (hi : i + 5 ≤ len) (hz : z.1 + 0 ≤ room_1.cells ∧ z.2 + 0 ≤ room_1.slots) (hW : w_W M) (kk : ∀ M', w_W M' → fm_G p l e room_1 s m args below meth c Q fm_lay fm_nf fm_fk fm_cl b x D dA 7 1091 [(4, .int (nI i)), (3, .ref 629), (2, .ref 586), (1, .ref 8), (0, .ref 0)] [] 630 M' z) : fm_G p l e room_1 s m args below meth c Q fm_lay fm_nf fm_fk fm_cl b x D dA 7 965 [(4, .int (nI i)), (3, .ref 629), (2, .ref 586), (1, .ref 8), (0, .ref 0)] [] 630 M z := by
  have hWW := hW
  obtain ⟨up, lf, wm, wc, ws, ms, C, W, L, sc, tb, FC, FV, mt, hm, ru, pu, hC, hR, hA⟩ := hW
  by_cases hv : fm_in 8 (f (i + 1))
  · obtain ⟨k, hk, e1⟩ := in8_to hv
    have hl := hC.2.2.2.1 k hk
    refine lw_outputs (B := w_W) hc hex hX hxl hxb hlen hi (t := nI (C k)) (PA := fun M' => M' = M) (fr1 := 2) (lo1 := 50) (by decide) (by decide) hz ?_ ?_ kk
    · rw [e1]; have h9 := c_outputs_ok (l := l) (b := b) (x := x) (D := D) (dA := dA) (n := 630) (by decide) hC.1.1 hk hC.1.2.2.2.1.1; rw [hl.2.1, bitc_lo _ (by omega)] at h9; exact h9
    · intro M1 hM1
      rw [hM1]
      exact ⟨1, 22, _, by decide, by decide, by rw [e1]; have h9 := r_outputs_ok (l := l) (b := b) (x := x) (D := D) (dA := dA) (n := 630) (by decide) hR.1 hk; rw [(hR.2.2.2.1 k hk).2.1] at h9; exact h9, fun M' h => by rw [h]; exact wW_t hWW⟩
  · refine lw_outputs (B := w_W) hc hex hX hxl hxb hlen hi (t := -1) (PA := fun M' => M' = M) (fr1 := 1) (lo1 := 20) (by decide) (by decide) hz ?_ ?_ kk
    · exact c_outputs_bad (by decide) hC.1.1 hv
    · intro M1 hM1
      rw [hM1]
      exact ⟨1, 22, _, by decide, by decide, by exact r_outputs_bad (by decide) hR.1 hv, fun M' h => by rw [h]; exact wW_t hWW⟩
theorem g_output (htr : l.stackTraces = false) (hc : fm_Cx p s m args meth c fm_cl b D 7 b_Lw_law "AgentNetLaw" fm_T0 (fm_tys dA)) (hex : fm_EX b x s) (hX : va_X (x 0) len f s s.heap) (hxl : x 0 < s.heap.size) (hxb : x 0 < b) (hlen : len < 2 ^ 31) (hi : i + 5 ≤ len) (hz : z.1 + 0 ≤ room_1.cells ∧ z.2 + 0 ≤ room_1.slots) (hW : w_W M) (kk : ∀ M', w_W M' → fm_G p l e room_1 s m args below meth c Q fm_lay fm_nf fm_fk fm_cl b x D dA 7 1091 [(4, .int (nI i)), (3, .ref 629), (2, .ref 586), (1, .ref 8), (0, .ref 0)] [] 630 M' z) : fm_G p l e room_1 s m args below meth c Q fm_lay fm_nf fm_fk fm_cl b x D dA 7 990 [(4, .int (nI i)), (3, .ref 629), (2, .ref 586), (1, .ref 8), (0, .ref 0)] [] 630 M z := by
  have hWW := hW
  obtain ⟨up, lf, wm, wc, ws, ms, C, W, L, sc, tb, FC, FV, mt, hm, ru, pu, hC, hR, hA⟩ := hW
  by_cases hv : fm_in 8 (f (i + 1))
  · obtain ⟨k, hk, e1⟩ := in8_to hv
    have hl := hC.2.2.2.1 k hk
    have hr := hR.2.2.2.1 k hk
    by_cases hq : fm_in (C k) (f (i + 2))
    · obtain ⟨q, hq1, e2⟩ := inN_to (by omega) hq
      refine lw_output (B := w_W) hc hex hX hxl hxb hlen hi (t := (W k q).toInt64) (PA := fun M' => M' = M) (fr1 := 2) (lo1 := 45) (by decide) (by decide) hz ?_ ?_ kk
      · rw [e1, e2]; have h9 := c_output (l := l) (b := b) (x := x) (D := D) (dA := dA) (n := 630) (by decide) hC.1.1 (c_valueOf_yes (k := q) (o := 66) (q := 67) (q2 := 68) (by decide) (by decide) (by decide) (by decide) (by decide) (by decide) hC.1.2.2.2.1.1 (by decide) (by decide) (by decide) hC.1.2.2.2.1.2 hk (by omega) (by rw [hl.2.1, bit_lo hl.1 (by omega)]; exact fun w => w hq1)); rw [hl.2.2 q hq1] at h9; exact h9
      · intro M1 hM1
        rw [hM1]
        exact ⟨1, 22, _, by decide, by decide, by rw [e1, e2]; have h9 := r_output_ok (k := q) (l := l) (b := b) (x := x) (D := D) (dA := dA) (n := 630) (by decide) hR.1 hk (by omega) (by rw [hr.2.1]; exact wi_in (by omega) hq1); rw [hr.2.2 q hq1] at h9; exact h9, fun M' h => by rw [h]; exact wW_t hWW⟩
    · by_cases g : f (i + 2) < 0
      · refine lw_output (B := w_W) hc hex hX hxl hxb hlen hi (t := 1099511627776) (PA := fun M' => M' = M) (fr1 := 2) (lo1 := 45) (by decide) (by decide) hz ?_ ?_ kk
        · rw [e1]; exact c_output (by decide) hC.1.1 (c_valueOf_lo (o := 66) (q := 67) (by decide) (by decide) (by decide) (by decide) (by decide) (by decide) hC.1.2.2.2.1.1 (in8_of hk) g)
        · intro M1 hM1
          rw [hM1]
          exact ⟨1, 22, _, by decide, by decide, by rw [e1]; exact r_output_bad2 (by decide) hR.1 hk (by rw [hr.2.1]; exact wi_len (by omega) hq), fun M' h => by rw [h]; exact wW_t hWW⟩
      · by_cases g2 : nI 16 ≤ f (i + 2)
        · refine lw_output (B := w_W) hc hex hX hxl hxb hlen hi (t := 1099511627776) (PA := fun M' => M' = M) (fr1 := 2) (lo1 := 45) (by decide) (by decide) hz ?_ ?_ kk
          · rw [e1]; exact c_output (by decide) hC.1.1 (c_valueOf_hi (o := 66) (q := 67) (by decide) (by decide) (by decide) (by decide) (by decide) (by decide) hC.1.2.2.2.1.1 (in8_of hk) g g2)
          · intro M1 hM1
            rw [hM1]
            exact ⟨1, 22, _, by decide, by decide, by rw [e1]; exact r_output_bad2 (by decide) hR.1 hk (by rw [hr.2.1]; exact wi_len (by omega) hq), fun M' h => by rw [h]; exact wW_t hWW⟩
        · refine lw_output (B := w_W) hc hex hX hxl hxb hlen hi (t := 1099511627776) (PA := fun M' => M' = M) (fr1 := 2) (lo1 := 45) (by decide) (by decide) hz ?_ ?_ kk
          · rw [e1]; exact c_output (by decide) hC.1.1 (c_valueOf_no (o := 66) (q := 67) (by decide) (by decide) (by decide) (by decide) (by decide) (by decide) hC.1.2.2.2.1.1 hk g g2 (by obtain ⟨q, q16, e2⟩ := inN_to (N := 16) (by decide) ⟨g, g2⟩; rw [e2] at hq ⊢; rw [hl.2.1, bit_lo hl.1 q16]; exact fun w => hq (inN_of (by omega) w)))
          · intro M1 hM1
            rw [hM1]
            exact ⟨1, 22, _, by decide, by decide, by rw [e1]; exact r_output_bad2 (by decide) hR.1 hk (by rw [hr.2.1]; exact wi_len (by omega) hq), fun M' h => by rw [h]; exact wW_t hWW⟩
  · refine lw_output (B := w_W) hc hex hX hxl hxb hlen hi (t := 1099511627776) (PA := fun M' => M' = M) (fr1 := 2) (lo1 := 45) (by decide) (by decide) hz ?_ ?_ kk
    · exact c_output (by decide) hC.1.1 (c_valueOf_bad (o := 66) (q := 67) (by decide) (by decide) (by decide) (by decide) (by decide) (by decide) hC.1.2.2.2.1.1 hv)
    · intro M1 hM1
      rw [hM1]
      exact ⟨1, 22, _, by decide, by decide, by exact r_output_bad1 (by decide) hR.1 hv, fun M' h => by rw [h]; exact wW_t hWW⟩
theorem g_expected (htr : l.stackTraces = false) (hc : fm_Cx p s m args meth c fm_cl b D 7 b_Lw_law "AgentNetLaw" fm_T0 (fm_tys dA)) (hex : fm_EX b x s) (hX : va_X (x 0) len f s s.heap) (hxl : x 0 < s.heap.size) (hxb : x 0 < b) (hlen : len < 2 ^ 31) (hi : i + 5 ≤ len) (hz : z.1 + 0 ≤ room_1.cells ∧ z.2 + 0 ≤ room_1.slots) (hW : w_W M) (kk : ∀ M', w_W M' → fm_G p l e room_1 s m args below meth c Q fm_lay fm_nf fm_fk fm_cl b x D dA 7 1091 [(4, .int (nI i)), (3, .ref 629), (2, .ref 586), (1, .ref 8), (0, .ref 0)] [] 630 M' z) : fm_G p l e room_1 s m args below meth c Q fm_lay fm_nf fm_fk fm_cl b x D dA 7 1028 [(4, .int (nI i)), (3, .ref 629), (2, .ref 586), (1, .ref 8), (0, .ref 0)] [] 630 M z := by
  have hWW := hW
  obtain ⟨up, lf, wm, wc, ws, ms, C, W, L, sc, tb, FC, FV, mt, hm, ru, pu, hC, hR, hA⟩ := hW
  by_cases hv : fm_in 8 (f (i + 1))
  · obtain ⟨k, hk, e1⟩ := in8_to hv
    have hl := hC.2.2.2.2.1.1 k hk
    have hmt := hC.2.2.2.2.1.2 k hk
    have hL4 : L ≤ 4 := by obtain ⟨⟨_, _, _, q⟩, -⟩ := hA; exact q.2.2.1.1
    have hfr := hA.2.2.2 k hk
    by_cases hkL : k % 4 < L
    · have h3 := hA.2.2.1 _ hkL
      have hK := hR.2.2.2.2.2.2.2 _ hkL
      have hfw := hfr.2 hkL
      rcases hfl : fl_W (sc (ru (k % 4))) tb k (ru (k % 4)) (pu (k % 4)) (hm (k % 4)) with _ | Wd
      · refine lw_expected (B := w_W) hc hex hX hxl hxb hlen hi (t := -1) (PA := fun M' => M' = M) (fr1 := 1) (lo1 := 20) (by decide) (by decide) hz ?_ ?_ kk
        · rw [e1]; exact c_expected_unmet (by decide) hC.1.1 hk hC.1.2.2.1.2.1 (by rw [hmt, (hfw.1 hfl).1]; rfl)
        · intro M1 hM1
          rw [hM1]
          exact ⟨10, 320, _, by decide, by decide, by rw [e1]; exact r_exp_none (k := 0) (by decide) hR.1 hk (by rw [hR.2.2.2.2.1]; exact nI_ltB hkL (by omega)) h3.1 h3.2.1 h3.2.2 hK.1 hK.2.1 hK.2.2 (hR.2.2.2.2.2.1 _ h3.2.1) hR.2.2.2.2.2.2.1 hfl, fun M' h => wW_x h (wW_t hWW)⟩
      · refine lw_expected (B := w_W) hc hex hX hxl hxb hlen hi (t := nI Wd.length) (PA := fun M' => M' = M) (fr1 := 2) (lo1 := 50) (by decide) (by decide) hz ?_ ?_ kk
        · rw [e1]; have h9 := c_expected_met (l := l) (b := b) (x := x) (D := D) (dA := dA) (n := 630) (by decide) hC.1.1 hk hC.1.2.2.1.2.1 hC.1.2.2.1.1 hC.1.2.2.1.2.2.2.2.1.1 (by rw [hmt, (hfw.2 Wd hfl).1]; decide); rw [hl.2.1, bitc_lo _ (by omega), (hfw.2 Wd hfl).2.1] at h9; exact h9
        · intro M1 hM1
          rw [hM1]
          exact ⟨10, 320, _, by decide, by decide, by rw [e1]; exact r_exp_some (k := 0) (by decide) hR.1 hk (by rw [hR.2.2.2.2.1]; exact nI_ltB hkL (by omega)) h3.1 h3.2.1 h3.2.2 hK.1 hK.2.1 hK.2.2 (hR.2.2.2.2.2.1 _ h3.2.1) hR.2.2.2.2.2.2.1 hfl, fun M' h => wW_x h (wW_t hWW)⟩
    · refine lw_expected (B := w_W) hc hex hX hxl hxb hlen hi (t := -1) (PA := fun M' => M' = M) (fr1 := 1) (lo1 := 20) (by decide) (by decide) hz ?_ ?_ kk
      · rw [e1]; exact c_expected_unmet (by decide) hC.1.1 hk hC.1.2.2.1.2.1 (by rw [hmt, (hfr.1 (by omega)).1]; rfl)
      · intro M1 hM1
        rw [hM1]
        exact ⟨2, 44, _, by decide, by decide, by rw [e1]; exact r_expected_no (by decide) hR.1 hk (by rw [hR.2.2.2.2.1]; exact hnltB (by omega) (by omega)), fun M' h => by rw [h]; exact wW_t hWW⟩
  · refine lw_expected (B := w_W) hc hex hX hxl hxb hlen hi (t := -1) (PA := fun M' => M' = M) (fr1 := 1) (lo1 := 20) (by decide) (by decide) hz ?_ ?_ kk
    · exact c_expected_bad (by decide) hC.1.1 hv
    · intro M1 hM1
      rw [hM1]
      exact ⟨2, 44, _, by decide, by decide, by exact r_expected_bad (by decide) hR.1 hv, fun M' h => by rw [h]; exact wW_t hWW⟩
theorem g_expectedOutput (htr : l.stackTraces = false) (hc : fm_Cx p s m args meth c fm_cl b D 7 b_Lw_law "AgentNetLaw" fm_T0 (fm_tys dA)) (hex : fm_EX b x s) (hX : va_X (x 0) len f s s.heap) (hxl : x 0 < s.heap.size) (hxb : x 0 < b) (hlen : len < 2 ^ 31) (hi : i + 5 ≤ len) (hz : z.1 + 0 ≤ room_1.cells ∧ z.2 + 0 ≤ room_1.slots) (hW : w_W M) (kk : ∀ M', w_W M' → fm_G p l e room_1 s m args below meth c Q fm_lay fm_nf fm_fk fm_cl b x D dA 7 1091 [(4, .int (nI i)), (3, .ref 629), (2, .ref 586), (1, .ref 8), (0, .ref 0)] [] 630 M' z) : fm_G p l e room_1 s m args below meth c Q fm_lay fm_nf fm_fk fm_cl b x D dA 7 1053 [(4, .int (nI i)), (3, .ref 629), (2, .ref 586), (1, .ref 8), (0, .ref 0)] [] 630 M z := by
  have hWW := hW
  obtain ⟨up, lf, wm, wc, ws, ms, C, W, L, sc, tb, FC, FV, mt, hm, ru, pu, hC, hR, hA⟩ := hW
  by_cases hv : fm_in 8 (f (i + 1))
  · obtain ⟨k, hk, e1⟩ := in8_to hv
    have hl := hC.2.2.2.2.1.1 k hk
    have hmt := hC.2.2.2.2.1.2 k hk
    have hL4 : L ≤ 4 := by obtain ⟨⟨_, _, _, q⟩, -⟩ := hA; exact q.2.2.1.1
    have hfr := hA.2.2.2 k hk
    by_cases hkL : k % 4 < L
    · have h3 := hA.2.2.1 _ hkL
      have hK := hR.2.2.2.2.2.2.2 _ hkL
      have hfw := hfr.2 hkL
      rcases hfl : fl_W (sc (ru (k % 4))) tb k (ru (k % 4)) (pu (k % 4)) (hm (k % 4)) with _ | Wd
      · have hc0 : FC k = 0 := (hfw.1 hfl).2
        by_cases g : f (i + 2) < 0
        · refine lw_expectedOutput (B := w_W) hc hex hX hxl hxb hlen hi (t := 1099511627776) (PA := fun M' => M' = M) (fr1 := 2) (lo1 := 45) (by decide) (by decide) hz ?_ ?_ kk
          · rw [e1]; exact c_expectedOutput (by decide) hC.1.1 hC.1.2.2.1.1 (c_valueOf_lo (o := 70) (q := 71) (by decide) (by decide) (by decide) (by decide) (by decide) (by decide) hC.1.2.2.1.2.2.2.2.1.1 (in8_of hk) g)
          · intro M1 hM1
            rw [hM1]
            exact ⟨10, 320, _, by decide, by decide, by rw [e1]; exact r_exo_none (k := 0) (by decide) hR.1 hk (by rw [hR.2.2.2.2.1]; exact nI_ltB hkL (by omega)) h3.1 h3.2.1 h3.2.2 hK.1 hK.2.1 hK.2.2 (hR.2.2.2.2.2.1 _ h3.2.1) hR.2.2.2.2.2.2.1 hfl, fun M' h => wW_x h (wW_t hWW)⟩
        · by_cases g2 : nI 16 ≤ f (i + 2)
          · refine lw_expectedOutput (B := w_W) hc hex hX hxl hxb hlen hi (t := 1099511627776) (PA := fun M' => M' = M) (fr1 := 2) (lo1 := 45) (by decide) (by decide) hz ?_ ?_ kk
            · rw [e1]; exact c_expectedOutput (by decide) hC.1.1 hC.1.2.2.1.1 (c_valueOf_hi (o := 70) (q := 71) (by decide) (by decide) (by decide) (by decide) (by decide) (by decide) hC.1.2.2.1.2.2.2.2.1.1 (in8_of hk) g g2)
            · intro M1 hM1
              rw [hM1]
              exact ⟨10, 320, _, by decide, by decide, by rw [e1]; exact r_exo_none (k := 0) (by decide) hR.1 hk (by rw [hR.2.2.2.2.1]; exact nI_ltB hkL (by omega)) h3.1 h3.2.1 h3.2.2 hK.1 hK.2.1 hK.2.2 (hR.2.2.2.2.2.1 _ h3.2.1) hR.2.2.2.2.2.2.1 hfl, fun M' h => wW_x h (wW_t hWW)⟩
          · refine lw_expectedOutput (B := w_W) hc hex hX hxl hxb hlen hi (t := 1099511627776) (PA := fun M' => M' = M) (fr1 := 2) (lo1 := 45) (by decide) (by decide) hz ?_ ?_ kk
            · rw [e1]; exact c_expectedOutput (by decide) hC.1.1 hC.1.2.2.1.1 (c_valueOf_no (o := 70) (q := 71) (by decide) (by decide) (by decide) (by decide) (by decide) (by decide) hC.1.2.2.1.2.2.2.2.1.1 hk g g2 (by obtain ⟨q, q16, e2⟩ := inN_to (N := 16) (by decide) ⟨g, g2⟩; rw [e2, hl.2.1, bit_lo hl.1 q16]; omega))
            · intro M1 hM1
              rw [hM1]
              exact ⟨10, 320, _, by decide, by decide, by rw [e1]; exact r_exo_none (k := 0) (by decide) hR.1 hk (by rw [hR.2.2.2.2.1]; exact nI_ltB hkL (by omega)) h3.1 h3.2.1 h3.2.2 hK.1 hK.2.1 hK.2.2 (hR.2.2.2.2.2.1 _ h3.2.1) hR.2.2.2.2.2.2.1 hfl, fun M' h => wW_x h (wW_t hWW)⟩
      · have hlen2 := (hfw.2 Wd hfl).2.1
        by_cases hq : fm_in Wd.length (f (i + 2))
        · obtain ⟨q, hq1, e2⟩ := inN_to (by have := hl.1; omega) hq
          obtain ⟨v, hv1⟩ : ∃ v, Wd[q]? = some v := ⟨_, List.getElem?_eq_getElem hq1⟩
          refine lw_expectedOutput (B := w_W) hc hex hX hxl hxb hlen hi (t := v.toInt64) (PA := fun M' => M' = M) (fr1 := 2) (lo1 := 45) (by decide) (by decide) hz ?_ ?_ kk
          · rw [e1, e2]; have h9 := c_expectedOutput (l := l) (b := b) (x := x) (D := D) (dA := dA) (n := 630) (by decide) hC.1.1 hC.1.2.2.1.1 (c_valueOf_yes (k := q) (o := 70) (q := 71) (q2 := 72) (by decide) (by decide) (by decide) (by decide) (by decide) (by decide) hC.1.2.2.1.2.2.2.2.1.1 (by decide) (by decide) (by decide) hC.1.2.2.1.2.2.2.2.1.2 hk (by omega) (by rw [hl.2.1, bit_lo hl.1 (by omega)]; omega)); rw [hl.2.2 q (by omega), (hfw.2 Wd hfl).2.2 q v hv1] at h9; exact h9
          · intro M1 hM1
            rw [hM1]
            exact ⟨10, 320, _, by decide, by decide, by rw [e1, e2]; exact r_exo_in (by decide) hR.1 hk (by rw [hR.2.2.2.2.1]; exact nI_ltB hkL (by omega)) h3.1 h3.2.1 h3.2.2 hK.1 hK.2.1 hK.2.2 (hR.2.2.2.2.2.1 _ h3.2.1) hR.2.2.2.2.2.2.1 hfl hv1 (by omega) (wi_in (by have := hl.1; omega) hq1), fun M' h => wW_x h (wW_t hWW)⟩
        · by_cases g : f (i + 2) < 0
          · refine lw_expectedOutput (B := w_W) hc hex hX hxl hxb hlen hi (t := 1099511627776) (PA := fun M' => M' = M) (fr1 := 2) (lo1 := 45) (by decide) (by decide) hz ?_ ?_ kk
            · rw [e1]; exact c_expectedOutput (by decide) hC.1.1 hC.1.2.2.1.1 (c_valueOf_lo (o := 70) (q := 71) (by decide) (by decide) (by decide) (by decide) (by decide) (by decide) hC.1.2.2.1.2.2.2.2.1.1 (in8_of hk) g)
            · intro M1 hM1
              rw [hM1]
              exact ⟨10, 320, _, by decide, by decide, by rw [e1]; exact r_exo_out (k := 0) (by decide) hR.1 hk (by rw [hR.2.2.2.2.1]; exact nI_ltB hkL (by omega)) h3.1 h3.2.1 h3.2.2 hK.1 hK.2.1 hK.2.2 (hR.2.2.2.2.2.1 _ h3.2.1) hR.2.2.2.2.2.2.1 hfl (wi_len (by have := hl.1; omega) hq), fun M' h => wW_x h (wW_t hWW)⟩
          · by_cases g2 : nI 16 ≤ f (i + 2)
            · refine lw_expectedOutput (B := w_W) hc hex hX hxl hxb hlen hi (t := 1099511627776) (PA := fun M' => M' = M) (fr1 := 2) (lo1 := 45) (by decide) (by decide) hz ?_ ?_ kk
              · rw [e1]; exact c_expectedOutput (by decide) hC.1.1 hC.1.2.2.1.1 (c_valueOf_hi (o := 70) (q := 71) (by decide) (by decide) (by decide) (by decide) (by decide) (by decide) hC.1.2.2.1.2.2.2.2.1.1 (in8_of hk) g g2)
              · intro M1 hM1
                rw [hM1]
                exact ⟨10, 320, _, by decide, by decide, by rw [e1]; exact r_exo_out (k := 0) (by decide) hR.1 hk (by rw [hR.2.2.2.2.1]; exact nI_ltB hkL (by omega)) h3.1 h3.2.1 h3.2.2 hK.1 hK.2.1 hK.2.2 (hR.2.2.2.2.2.1 _ h3.2.1) hR.2.2.2.2.2.2.1 hfl (wi_len (by have := hl.1; omega) hq), fun M' h => wW_x h (wW_t hWW)⟩
            · refine lw_expectedOutput (B := w_W) hc hex hX hxl hxb hlen hi (t := 1099511627776) (PA := fun M' => M' = M) (fr1 := 2) (lo1 := 45) (by decide) (by decide) hz ?_ ?_ kk
              · rw [e1]; exact c_expectedOutput (by decide) hC.1.1 hC.1.2.2.1.1 (c_valueOf_no (o := 70) (q := 71) (by decide) (by decide) (by decide) (by decide) (by decide) (by decide) hC.1.2.2.1.2.2.2.2.1.1 hk g g2 (by obtain ⟨q, q16, e2⟩ := inN_to (N := 16) (by decide) ⟨g, g2⟩; rw [e2] at hq ⊢; rw [hl.2.1, bit_lo hl.1 q16]; exact fun w => hq (inN_of (by omega) (by omega))))
              · intro M1 hM1
                rw [hM1]
                exact ⟨10, 320, _, by decide, by decide, by rw [e1]; exact r_exo_out (k := 0) (by decide) hR.1 hk (by rw [hR.2.2.2.2.1]; exact nI_ltB hkL (by omega)) h3.1 h3.2.1 h3.2.2 hK.1 hK.2.1 hK.2.2 (hR.2.2.2.2.2.1 _ h3.2.1) hR.2.2.2.2.2.2.1 hfl (wi_len (by have := hl.1; omega) hq), fun M' h => wW_x h (wW_t hWW)⟩
    · have hc0 : FC k = 0 := (hfr.1 (by omega)).2
      by_cases g : f (i + 2) < 0
      · refine lw_expectedOutput (B := w_W) hc hex hX hxl hxb hlen hi (t := 1099511627776) (PA := fun M' => M' = M) (fr1 := 2) (lo1 := 45) (by decide) (by decide) hz ?_ ?_ kk
        · rw [e1]; exact c_expectedOutput (by decide) hC.1.1 hC.1.2.2.1.1 (c_valueOf_lo (o := 70) (q := 71) (by decide) (by decide) (by decide) (by decide) (by decide) (by decide) hC.1.2.2.1.2.2.2.2.1.1 (in8_of hk) g)
        · intro M1 hM1
          rw [hM1]
          exact ⟨2, 44, _, by decide, by decide, by rw [e1]; exact r_expectedOutput_no (by decide) hR.1 hk (by rw [hR.2.2.2.2.1]; exact hnltB (by omega) (by omega)), fun M' h => by rw [h]; exact wW_t hWW⟩
      · by_cases g2 : nI 16 ≤ f (i + 2)
        · refine lw_expectedOutput (B := w_W) hc hex hX hxl hxb hlen hi (t := 1099511627776) (PA := fun M' => M' = M) (fr1 := 2) (lo1 := 45) (by decide) (by decide) hz ?_ ?_ kk
          · rw [e1]; exact c_expectedOutput (by decide) hC.1.1 hC.1.2.2.1.1 (c_valueOf_hi (o := 70) (q := 71) (by decide) (by decide) (by decide) (by decide) (by decide) (by decide) hC.1.2.2.1.2.2.2.2.1.1 (in8_of hk) g g2)
          · intro M1 hM1
            rw [hM1]
            exact ⟨2, 44, _, by decide, by decide, by rw [e1]; exact r_expectedOutput_no (by decide) hR.1 hk (by rw [hR.2.2.2.2.1]; exact hnltB (by omega) (by omega)), fun M' h => by rw [h]; exact wW_t hWW⟩
        · refine lw_expectedOutput (B := w_W) hc hex hX hxl hxb hlen hi (t := 1099511627776) (PA := fun M' => M' = M) (fr1 := 2) (lo1 := 45) (by decide) (by decide) hz ?_ ?_ kk
          · rw [e1]; exact c_expectedOutput (by decide) hC.1.1 hC.1.2.2.1.1 (c_valueOf_no (o := 70) (q := 71) (by decide) (by decide) (by decide) (by decide) (by decide) (by decide) hC.1.2.2.1.2.2.2.2.1.1 hk g g2 (by obtain ⟨q, q16, e2⟩ := inN_to (N := 16) (by decide) ⟨g, g2⟩; rw [e2, hl.2.1, bit_lo hl.1 q16]; omega))
          · intro M1 hM1
            rw [hM1]
            exact ⟨2, 44, _, by decide, by decide, by rw [e1]; exact r_expectedOutput_no (by decide) hR.1 hk (by rw [hR.2.2.2.2.1]; exact hnltB (by omega) (by omega)), fun M' h => by rw [h]; exact wW_t hWW⟩
  · refine lw_expectedOutput (B := w_W) hc hex hX hxl hxb hlen hi (t := 1099511627776) (PA := fun M' => M' = M) (fr1 := 2) (lo1 := 45) (by decide) (by decide) hz ?_ ?_ kk
    · exact c_expectedOutput (by decide) hC.1.1 hC.1.2.2.1.1 (c_valueOf_bad (o := 70) (q := 71) (by decide) (by decide) (by decide) (by decide) (by decide) (by decide) hC.1.2.2.1.2.2.2.2.1.1 hv)
    · intro M1 hM1
      rw [hM1]
      exact ⟨2, 44, _, by decide, by decide, by exact r_expectedOutput_bad (by decide) hR.1 hv, fun M' h => by rw [h]; exact wW_t hWW⟩
end LWI
