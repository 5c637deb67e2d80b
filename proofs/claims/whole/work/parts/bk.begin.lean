/-! THE WORLD at the law's first call -/
def am_0 : am_T := (fun _ => 0, fun _ => -1, fun _ => -1, fun _ => -1, fun _ => ag_new 0 0 0, fun _ => nI 0, fun _ _ => 0, fun _ => 0)
theorem fb_m : ∀ j, j < 4 → ∀ v, v < 3 → ∀ a, a < 8 → fm_M2.1 (91 + 124 * j + 41 * v + 1) a = nI 0 ∧ fm_M2.1 (91 + 124 * j + 41 * v + 2) a = -1 ∧ fm_M2.1 (91 + 124 * j + 41 * v + 3) a = -1 ∧ fm_M2.1 (91 + 124 * j + 41 * v + 4) a = -1 ∧ fm_M2.1 (91 + 124 * j + 41 * v + 7) a = nI 0 := by decide +kernel
theorem fb_v : ∀ j, j < 4 → ∀ v, v < 3 → ∀ a, a < 8 → ∀ i, i < 16 → fm_M2.1 (91 + 124 * j + 41 * v + 8) (a * 16 + i) = 0 := by decide +kernel
theorem fb_hc {j v : Nat} (hj : j < 4) (hv : v < 3) : hc_M fm_M2 (91 + 124 * j + 41 * v) am_0 := ⟨fun a ha => (fb_m j hj v hv a ha).1, fun a ha => (fb_m j hj v hv a ha).2.1, fun a ha => (fb_m j hj v hv a ha).2.2.1, fun a ha => (fb_m j hj v hv a ha).2.2.2.1, fun a ha => (fb_m j hj v hv a ha).2.2.2.2, fun a i ha hi => fb_v j hj v hv a ha i hi, fun a ha hs => absurd rfl hs⟩
theorem fb_r : ∀ r, r < 96 → fm_M2.1 597 r = nI 0 ∧ fm_M2.1 599 r = -1 ∧ fm_M2.1 600 r = -1 ∧ fm_M2.1 601 r = -1 ∧ fm_M2.1 602 r = nI 0 ∧ fm_M2.1 611 r = 0 := by decide +kernel
theorem fb_w : ∀ r, r < 96 → ∀ i, i < 16 → fm_M2.1 603 (16 * r + i) = 0 := by decide +kernel
theorem fb_hr {b0 : Nat} (hb : b0 + 8 ≤ 96) : hr_M fm_M2 b0 am_0 := ⟨fun a ha => (fb_r (b0 + a) (by omega)).1, fun a ha hs => absurd (show (0 : Nat) = 2 from hs) (by decide), fun a ha => (fb_r (b0 + a) (by omega)).2.1, fun a ha => (fb_r (b0 + a) (by omega)).2.2.1, fun a ha => (fb_r (b0 + a) (by omega)).2.2.2.1, fun a ha => (fb_r (b0 + a) (by omega)).2.2.2.2.1, fun a i ha hi => fb_w (b0 + a) (by omega) i hi, fun a ha => Or.inl (fb_r (b0 + a) (by omega)).2.2.2.2.2, fun a ha hs => absurd rfl hs⟩
theorem fb_p : fm_NP fm_M2 ∧ fp_F fm_M2 ∧ sy_P fm_M2 66 := by
  unfold fm_NP fp_F sy_P tr_P
  decide +kernel
theorem fb_wi : fm_M2.2.2 16 0 = some 17 ∧ (∀ k, k < 20 → fm_M2.2.2 17 k = some (18 + 2 * (k + 1))) ∧ fm_M2.2.2 16 2 = some 18 ∧ (∀ u, u < 21 → fm_M2.2.2 (18 + 2 * u) 7 = some (18 + 2 * u + 1)) := by decide +kernel
theorem fb_0 : ∀ j, j < 4 → fm_M2.1 (90 + 124 * j) 0 = nI j ∧ fm_M2.1 (90 + 124 * j) 1 = nI 1 ∧ fm_M2.1 (90 + 124 * j) 2 = nI 0 := by decide +kernel
theorem fb_t : ∀ j, j < 4 → ∀ k, k < 8 → fm_M2.1 (11 + j) k = 0 ∧ fm_M2.1 589 (8 * j + k) = 0 := by decide +kernel
theorem fb_c : cw_P fm_M2 := ⟨fr_AP, fb_p.1, fb_p.2.1, fb_p.2.2, fun mm hM => by
  obtain ⟨j, v, hj, hv, e⟩ := hM
  rw [e]
  exact fr_MP j hj v hv⟩
theorem fb_s {j : Nat} (hj : j < 4) : cw_S j 1 0 am_0 am_0 am_0 fm_M2 := by
  refine ⟨91 + 124 * j + 41 * 0, 91 + 124 * j + 41 * 1, 91 + 124 * j + 41 * 2, ⟨0, by decide, rfl⟩, ⟨1, by decide, rfl⟩, ⟨2, by decide, rfl⟩, by omega, by omega, by omega, (fr_me j hj).1, ?_, ?_, (fb_0 j hj).1, (fb_0 j hj).2.1, (fb_0 j hj).2.2, fun _ => fb_hc hj (by decide), fb_hc hj (by decide), fun h => absurd rfl h⟩
  · rw [(fr_cp j hj).1]
    congr 1
    omega
  · rw [(fr_cp j hj).2]
    congr 1
    omega
theorem fb_W : cw_W [] fm_M2 := by
  refine ⟨fun k => if k < 20 then k + 1 else 0, ⟨fb_wi.1, fun k hk => ?_, ?_, fun k hk => ?_, fun a c ha hc e => ?_, fb_wi.2.2.2⟩, fr_an.2.1, Nat.zero_le 20, fun k m h => by simp at h⟩
  · show fm_M2.2.2 17 k = some (18 + 2 * (if k < 20 then k + 1 else 0))
    rw [if_pos hk]
    exact fb_wi.2.1 k hk
  · show fm_M2.2.2 16 2 = some (18 + 2 * (if 20 < 20 then 20 + 1 else 0))
    rw [if_neg (by decide)]
    exact fb_wi.2.2.1
  · show (if k < 20 then k + 1 else 0) < 21
    split <;> omega
  · have e : (if a < 20 then a + 1 else 0) = (if c < 20 then c + 1 else 0) := e
    split at e <;> split at e <;> omega
theorem fb_C : w_C (fun _ => 1) (fun _ => 0) (fun _ => am_0) (fun _ => am_0) (fun _ => am_0) [] (fun _ => 0) (fun _ _ => 0) 0 (fun _ => []) (fun _ _ => 0) (fun _ => 0) (fun _ _ => 0) (fun _ => 0) fm_M2 :=
  ⟨fb_c, fun j hj => fb_s hj, fb_W, fun a ha => ⟨Nat.zero_le _, (fr_cnt a ha).2, fun i hi => absurd hi (Nat.not_lt_zero i)⟩, ⟨fun a ha => ⟨Nat.zero_le _, (fr_s0 a ha).1, fun i hi => absurd hi (Nat.not_lt_zero i)⟩, fun a ha => fr_met a ha⟩, fr_an.1, fun q hq => ⟨(fr_sc q hq).1, Nat.zero_le _, (fr_sc q hq).2, fun k v hv => by simp at hv⟩, fun j hj k hk => (fb_t j hj k hk).1⟩
theorem fb_R : w_R (fun _ => 1) (fun _ => 0) (fun _ => am_0) (fun _ => am_0) (fun _ => am_0) [] (fun _ => 0) (fun _ _ => 0) 0 (fun _ => []) (fun _ _ => 0) (fun _ => 0) (fun _ => 0) (fun _ => 0) fm_M2 :=
  ⟨fr_RP, fun j hj => ⟨(fr_rup j hj).1, (fr_rup j hj).2.1, fun _ => fb_hr (by omega), fb_hr (by omega), fun h => absurd rfl h⟩, ⟨fr_ref.2.1, Nat.zero_le 20, fun k m h => by simp at h⟩, fun a ha => ⟨Nat.zero_le _, (fr_cnt a ha).1, fun i hi => absurd hi (Nat.not_lt_zero i)⟩, fr_ref.1, fun q hq => ⟨(fr_rup q hq).2.2, Nat.zero_le _, fun k v hv => by simp at hv⟩, fun j hj k hk => (fb_t j hj k hk).2, fun a ha => absurd ha (Nat.not_lt_zero a)⟩
theorem fb_G : GI (fun _ => am_0) (fun _ => am_0) (fun _ => am_0) [] (fun _ => 0) 0 := by
  have k0 : kn (-1 : Int32) = 0 := by decide
  have b0 : ∀ i, bt (nI 0) i = false := fun i => by
    show (0#32).getLsbD i = false
    simp
  have row : ∀ a h lv sk, pr_R a 0 0 (ag_new 0 0 0) 0 sk h lv (ro a am_0) := fun a h lv sk => by
    show kI (kn (-1)) = -1 ∧ pr_C a 0 0 (ag_new 0 0 0) 0 sk h lv 0 (kn (-1)) (-1) (-1) (ag_new 0 0 0) (nI 0) 0
    rw [k0]
    refine ⟨rfl, ⟨by decide, fun e => absurd rfl e, Or.inl rfl, by decide⟩, fun e => by omega, fun e => by omega, fun e => by omega, fun _ => Nat.zero_le _, fun _ => rfl, by decide, fun i hi => ?_, fun i hi => absurd hi (Nat.not_lt_zero i)⟩
    rw [b0 i] at hi
    cases hi
  have hk : ∀ a (h : Nat), kn (gi_x a (fun _ => am_0) h).2.1 = 0 := fun a h => k0
  have z7 : (ag_new 0 0 0).1 7 = 0 := rfl
  refine ⟨fun _ => 0, fun _ => 0, fun _ => ag_new 0 0 0, fun a ha => ⟨⟨Nat.zero_le 200, (by show (0 : Nat) < 4; decide), Nat.le_refl 0⟩, fun h => ⟨row a h 0 _, row a h 1 _, row a h 2 _⟩, fun h => ⟨prL_rf _, prL_rf _⟩, fun q hq => absurd hq List.not_mem_nil⟩, fun a ha => Or.inl ⟨z7, fun h => k0, fun q hq => absurd hq List.not_mem_nil, fun h => ?_⟩, ⟨by decide, fun a ha hL h => k0⟩, fun q hq => absurd hq List.not_mem_nil⟩
  have pa : pr_a 0 0 h (ro a am_0) (ro (a + 4) am_0) := ⟨fun q => absurd (show kn (-1 : Int32) = 0 from k0) q, fun q => by
    have q : kn (-1 : Int32) = 0 + 1 := q
    omega⟩
  exact ⟨pa, pa, pa⟩
theorem fb_A : w_A (fun _ => 1) (fun _ => 0) (fun _ => am_0) (fun _ => am_0) (fun _ => am_0) [] (fun _ => 0) 0 (fun _ => []) (fun _ _ => 0) (fun _ => 0) (fun _ _ => 0) (fun _ => 0) (fun _ => 0) (fun _ => 0) (fun _ => 0) :=
  ⟨fb_G, fun j => ⟨Nat.le_refl 1, Nat.zero_le 9, fun h => absurd rfl h, fun _ => rfl, fun _ => rfl⟩, fun a ha => absurd ha (Nat.not_lt_zero a), fun i hi => ⟨fun _ => ⟨rfl, rfl⟩, fun h => absurd h (Nat.not_lt_zero _)⟩⟩
theorem fb_world : w_W fm_M2 := ⟨_, _, _, _, _, _, _, _, _, _, _, _, _, _, _, _, _, fb_C, fb_R, fb_A⟩
