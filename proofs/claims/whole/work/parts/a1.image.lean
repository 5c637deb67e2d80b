/-! THE IMAGE of an agent: its bytes -/
def by8 (s : Nat) (y : Int32) : Nat := ((y.toBitVec.ushiftRight s) &&& 255#32).toNat
theorem by8_lt (s : Nat) (y : Int32) : by8 s y < 256 := by
  unfold by8
  rw [BitVec.toNat_and]
  exact Nat.lt_of_le_of_lt Nat.and_le_right (by decide)
theorem bk_255 : ∀ i : Nat, i < 32 → (255#32).getLsbD i = decide (i < 8) := by decide
theorem by8_bv (s : Nat) (y : Int32) : (nI (by8 s y)).toBitVec = (y.toBitVec.ushiftRight s) &&& 255#32 := by
  show BitVec.ofNat 32 _ = _
  unfold by8
  rw [BitVec.ofNat_toNat]
  simp
theorem by8_sh {t : Nat} (ht : t ≤ 24) (v : BitVec 32) (i : Nat) (hi : i < 8) : (v.sshiftRight t).getLsbD i = v.getLsbD (t + i) := by
  rw [BitVec.getLsbD_sshiftRight, if_pos (by omega)]
  have : ¬ 32 ≤ i := by omega
  simp [this]
theorem by8_i8 {t : Nat} (ht : t ≤ 24) (v : BitVec 32) : (v.sshiftRight t).signExtend 8 = ((v.ushiftRight t) &&& 255#32).signExtend 8 := by
  apply BitVec.eq_of_getLsbD_eq
  intro i hi
  have h32 : i < 32 := by omega
  rw [BitVec.getLsbD_signExtend, BitVec.getLsbD_signExtend, if_pos h32, if_pos h32, by8_sh ht v i hi, BitVec.getLsbD_and, bk_255 i h32]
  have e2 : (v.ushiftRight t).getLsbD i = v.getLsbD (t + i) := BitVec.getLsbD_ushiftRight v t i
  rw [e2]
  simp [hi]
theorem by8_r {t : Nat} (ht : t ≤ 24) (v : BitVec 32) : ((v.signExtend 64).sshiftRight t).signExtend 32 &&& 255#32 = (v.ushiftRight t) &&& 255#32 := by
  apply BitVec.eq_of_getLsbD_eq
  intro i hi
  rw [BitVec.getLsbD_and, BitVec.getLsbD_and, bk_255 i hi]
  have e2 : (v.ushiftRight t).getLsbD i = v.getLsbD (t + i) := BitVec.getLsbD_ushiftRight v t i
  by_cases h8 : i < 8
  · rw [BitVec.getLsbD_signExtend, if_pos (by omega), BitVec.getLsbD_sshiftRight, if_pos (by omega), BitVec.getLsbD_signExtend, if_pos (by omega), e2]
    have : ¬ 64 ≤ i := by omega
    have g : t + i < 32 := by omega
    have g2 : t + i < 64 := by omega
    simp [this, hi, g, g2]
  · simp [h8]
theorem by8_back (v : BitVec 32) : (((((0#32 <<< 8 ||| ((v.ushiftRight 24) &&& 255#32)) <<< 8) ||| ((v.ushiftRight 16) &&& 255#32)) <<< 8 ||| ((v.ushiftRight 8) &&& 255#32)) <<< 8) ||| ((v.ushiftRight 0) &&& 255#32) = v := by
  apply BitVec.eq_of_getLsbD_eq
  intro i hi
  have e2 : ∀ t, (v.ushiftRight t).getLsbD i = v.getLsbD (t + i) := fun t => BitVec.getLsbD_ushiftRight v t i
  have e3 : ∀ t j, (v.ushiftRight t).getLsbD j = v.getLsbD (t + j) := fun t j => BitVec.getLsbD_ushiftRight v t j
  simp only [BitVec.getLsbD_or, BitVec.getLsbD_shiftLeft, BitVec.getLsbD_and, e3]
  by_cases h1 : i < 8
  · have q0 := bk_255 i hi
    rw [q0]
    simp [h1, hi]
  · by_cases h2 : i < 16
    · have := bk_255 (i - 8) (by omega)
      have q := bk_255 i hi
      rw [this, q]
      have e : 8 + (i - 8) = i := by omega
      have g : i - 8 < 8 := by omega
      simp [h1, hi, g, e]
    · by_cases h3 : i < 24
      · have q0 := bk_255 i hi
        have q1 := bk_255 (i - 8) (by omega)
        have q2 := bk_255 (i - 8 - 8) (by omega)
        rw [q0, q1, q2]
        have e : 16 + (i - 8 - 8) = i := by omega
        have g1 : ¬ i - 8 < 8 := by omega
        have g2 : i - 8 - 8 < 8 := by omega
        simp [h1, hi, g1, g2, e]
        omega
      · have q0 := bk_255 i hi
        have q1 := bk_255 (i - 8) (by omega)
        have q2 := bk_255 (i - 8 - 8) (by omega)
        have q3 := bk_255 (i - 8 - 8 - 8) (by omega)
        rw [q0, q1, q2, q3]
        have e : 24 + (i - 8 - 8 - 8) = i := by omega
        have g1 : ¬ i - 8 < 8 := by omega
        have g2 : ¬ i - 8 - 8 < 8 := by omega
        have g3 : i - 8 - 8 - 8 < 8 := by omega
        have k1 : i - 8 < 32 := by omega
        have k2 : i - 8 - 8 < 32 := by omega
        rw [e, decide_eq_false h1, decide_eq_false g1, decide_eq_false g2, decide_eq_true g3, decide_eq_true hi, decide_eq_true k1, decide_eq_true k2]
        simp
theorem by8_c24 (y : Int32) : (y >>> (nI 24 &&& 31)).toInt8 = (nI (by8 24 y)).toInt8 := by
  apply Int8.toBitVec_inj.mp
  have h := by8_i8 (t := 24) (by decide) y.toBitVec
  rw [← by8_bv] at h
  exact h
theorem by8_r24 (y : Int32) : (y.toInt64 >>> ((nI 24).toInt64 &&& 63)).toInt32 &&& nI 255 = nI (by8 24 y) := by
  apply Int32.toBitVec_inj.mp
  rw [by8_bv]
  exact by8_r (t := 24) (by decide) y.toBitVec
theorem by8_c16 (y : Int32) : (y >>> (nI 16 &&& 31)).toInt8 = (nI (by8 16 y)).toInt8 := by
  apply Int8.toBitVec_inj.mp
  have h := by8_i8 (t := 16) (by decide) y.toBitVec
  rw [← by8_bv] at h
  exact h
theorem by8_r16 (y : Int32) : (y.toInt64 >>> ((nI 16).toInt64 &&& 63)).toInt32 &&& nI 255 = nI (by8 16 y) := by
  apply Int32.toBitVec_inj.mp
  rw [by8_bv]
  exact by8_r (t := 16) (by decide) y.toBitVec
theorem by8_c8 (y : Int32) : (y >>> (nI 8 &&& 31)).toInt8 = (nI (by8 8 y)).toInt8 := by
  apply Int8.toBitVec_inj.mp
  have h := by8_i8 (t := 8) (by decide) y.toBitVec
  rw [← by8_bv] at h
  exact h
theorem by8_r8 (y : Int32) : (y.toInt64 >>> ((nI 8).toInt64 &&& 63)).toInt32 &&& nI 255 = nI (by8 8 y) := by
  apply Int32.toBitVec_inj.mp
  rw [by8_bv]
  exact by8_r (t := 8) (by decide) y.toBitVec
theorem by8_c0 (y : Int32) : (y >>> (nI 0 &&& 31)).toInt8 = (nI (by8 0 y)).toInt8 := by
  apply Int8.toBitVec_inj.mp
  have h := by8_i8 (t := 0) (by decide) y.toBitVec
  rw [← by8_bv] at h
  exact h
theorem by8_r0 (y : Int32) : (y.toInt64 >>> ((nI 0).toInt64 &&& 63)).toInt32 &&& nI 255 = nI (by8 0 y) := by
  apply Int32.toBitVec_inj.mp
  rw [by8_bv]
  exact by8_r (t := 0) (by decide) y.toBitVec
theorem by8_v (y : Int32) : ((((((nI 0 <<< (nI 8 &&& 31)) ||| nI (by8 24 y)) <<< (nI 8 &&& 31)) ||| nI (by8 16 y)) <<< (nI 8 &&& 31) ||| nI (by8 8 y)) <<< (nI 8 &&& 31)) ||| nI (by8 0 y) = y := by
  apply Int32.toBitVec_inj.mp
  have h := by8_back y.toBitVec
  rw [← by8_bv, ← by8_bv, ← by8_bv, ← by8_bv] at h
  exact h
theorem i8_255 : ∀ v, v < 256 → (nI v).toInt8.toInt32 &&& nI 255 = nI v := by decide +kernel
theorem n_255 : ∀ v, v < 256 → nI v &&& nI 255 = nI v := by decide +kernel
theorem nar_i8 (u : Int32) : vp_nar .byte u.toInt8.toInt32 = u.toInt8.toInt32 := by
  show u.toInt8.toInt32.toInt8.toInt32 = _
  rw [Int8.toInt8_toInt32]
theorem i8_n0 : ∀ v, v < 256 → (nI v >>> (nI 8 &&& 31)) = nI 0 := by decide +kernel
/-- a value's bytes, an agent's bytes -/
def im_V : bf_V → List Nat
  | .inl y => [0, by8 24 y, by8 16 y, by8 8 y, by8 0 y]
  | .inr k => [1, k]
def im_P (q : bf_V × bf_V) : List Nat := im_V q.1 ++ im_V q.2
def im_H (N : Nat → Nat) (d : Nat) : List Nat := [N 0, N 1, N 2, N 4, N 5, N 6, N 7, 0, N 3, d]
def im_B (A : ag_T) : List Nat := im_H A.1 A.2.1.length ++ (A.2.1.flatMap im_V ++ ([A.2.2.length] ++ A.2.2.flatMap im_P))
theorem imV_len (v : bf_V) : (im_V v).length ≤ 5 := by cases v <;> simp [im_V]
theorem imP_len (q : bf_V × bf_V) : (im_P q).length ≤ 10 := by
  have := imV_len q.1
  have := imV_len q.2
  rw [im_P, List.length_append]
  omega
theorem fl_len {α : Type} {f : α → List Nat} {c : Nat} (h : ∀ v, (f v).length ≤ c) : ∀ l : List α, (l.flatMap f).length ≤ c * l.length
  | [] => Nat.zero_le _
  | v :: l => by
    rw [List.flatMap_cons, List.length_append, List.length_cons, Nat.mul_succ]
    have := fl_len h l
    have := h v
    omega
theorem fl_take {α : Type} {f : α → List Nat} {l : List α} {k : Nat} {v : α} (h : l[k]? = some v) : (l.take (k + 1)).flatMap f = (l.take k).flatMap f ++ f v := by
  rw [List.take_succ, h, List.flatMap_append]
  simp
theorem imB_len {A : ag_T} (ok : ag_ok A) : (im_B A).length ≤ 121 := by
  have h1 := fl_len imV_len A.2.1
  have h2 := fl_len imP_len A.2.2
  have h3 := ok.1
  have h4 := ok.2.1
  rw [im_B, List.length_append, List.length_append, List.length_append]
  show 10 + (_ + (1 + _)) ≤ 121
  omega
/-- from place c on the bytes bs go on with l -/
def im_at (bs : List Nat) (c : Nat) (l : List Nat) : Prop := ∀ i w, l[i]? = some w → bs[c + i]? = some w
theorem imA_self (bs : List Nat) : im_at bs 0 bs := fun i w h => by rw [Nat.zero_add]; exact h
theorem imA_left {bs l1 l2 : List Nat} {c : Nat} (h : im_at bs c (l1 ++ l2)) : im_at bs c l1 := fun i w hw => h i w (by
  have : i < l1.length := (List.getElem?_eq_some_iff.mp hw).1
  rw [List.getElem?_append_left this]; exact hw)
theorem imA_right {bs l1 l2 : List Nat} {c : Nat} (h : im_at bs c (l1 ++ l2)) : im_at bs (c + l1.length) l2 := fun i w hw => by
  rw [Nat.add_assoc]
  refine h _ _ ?_
  rw [List.getElem?_append_right (by omega), show l1.length + i - l1.length = i by omega]; exact hw
theorem imA_fl {α : Type} {f : α → List Nat} {bs : List Nat} {c k : Nat} {l : List α} {v : α} (h : im_at bs c (l.flatMap f)) (hv : l[k]? = some v) : im_at bs (c + ((l.take k).flatMap f).length) (f v) := by
  have e : l.flatMap f = (l.take (k + 1)).flatMap f ++ (l.drop (k + 1)).flatMap f := by rw [← List.flatMap_append, List.take_append_drop]
  rw [e, fl_take hv] at h
  exact imA_right (imA_left h)
theorem imV_256 {v : bf_V} (h : e_ok v) : ∀ w ∈ im_V v, w < 256 := by
  cases v with
  | inl y =>
    intro w hw
    simp only [im_V, List.mem_cons, List.not_mem_nil, or_false] at hw
    rcases hw with rfl | rfl | rfl | rfl | rfl
    · decide
    all_goals exact by8_lt _ _
  | inr k =>
    have : k < 16 := h
    intro w hw
    simp only [im_V, List.mem_cons, List.not_mem_nil, or_false] at hw
    rcases hw with rfl | rfl <;> omega
theorem in_16 {n : Nat} {v : bf_V} (hn : n ≤ 8) (h : ag_in n v) : e_ok v := in_mono (fun k (hk : k < n) => (show k < 16 by omega)) h
theorem imB_256 {a : Nat} {A : ag_T} (ha : a < 8) (w : ag_wf a A) : ∀ v ∈ im_B A, v < 256 := by
  obtain ⟨w0, -, w1, w2, w3, w4, w5, w6, w7⟩ := w
  have h3 := w0.1
  have h4 := w0.2.1
  intro v hv
  rcases List.mem_append.mp hv with hv | hv
  · simp only [im_H, List.mem_cons, List.not_mem_nil, or_false] at hv
    rcases hv with rfl | rfl | rfl | rfl | rfl | rfl | rfl | rfl | rfl | rfl <;> omega
  rcases List.mem_append.mp hv with hv | hv
  · obtain ⟨u, hu, hv⟩ := List.mem_flatMap.mp hv
    exact imV_256 (in_16 h4 (w0.2.2.1 u hu)) v hv
  rcases List.mem_append.mp hv with hv | hv
  · rw [List.mem_singleton.mp hv]; omega
  · obtain ⟨u, hu, hv⟩ := List.mem_flatMap.mp hv
    have h := w0.2.2.2 u hu
    rcases List.mem_append.mp hv with hv | hv
    · exact imV_256 (in_16 h4 h.1) v hv
    · exact imV_256 (in_16 h4 h.2) v hv
theorem hnleB {a c : Nat} (h : c < a) (ha : a < 100000) : ¬ nI a ≤ nI c := fun g => by
  have := (nI_leI (a := a) (b := c) (by omega) (by omega)).mp g
  omega
theorem hnltB {a c : Nat} (h : c ≤ a) (ha : a < 100000) : ¬ nI a < nI c := fun g => by
  have := (nI_ltI (a := a) (b := c) (by omega) (by omega)).mp g
  omega
