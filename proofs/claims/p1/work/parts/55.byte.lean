/-! the bytes of a program: both sides write the same -/
theorem rb_key (v : BitVec 64) (t : Nat) (ht : t ≤ 56) : (v.ushiftRight t).signExtend 32 &&& 255#32 = ((v.sshiftRight t) &&& 255#64).signExtend 32 := by
  apply BitVec.eq_of_getLsbD_eq
  intro i hi
  have h255 : ∀ i : Nat, i < 32 → (255#32).getLsbD i = decide (i < 8) := by decide
  have h255' : ∀ i : Nat, i < 32 → (255#64).getLsbD i = decide (i < 8) := by decide
  have h64 : i < 64 := by omega
  rw [BitVec.getLsbD_and, BitVec.getLsbD_signExtend, BitVec.getLsbD_signExtend, if_pos h64, if_pos h64, BitVec.getLsbD_and, h255 i hi, h255' i hi]
  by_cases h8 : i < 8
  · have e : t + i < 64 := by omega
    have e2 : (v.ushiftRight t).getLsbD i = v.getLsbD (t + i) := BitVec.getLsbD_ushiftRight v t i
    rw [e2, BitVec.getLsbD_sshiftRight, if_pos e]
    have h9 : ¬ 64 ≤ i := by omega
    simp [h64, hi, h9]
  · simp [h8]
theorem rb_ap (y : Int64) {c : Nat} (hc : c < 8) : ap_b y c = rb_b y c := by
  have h : c = 0 ∨ c = 1 ∨ c = 2 ∨ c = 3 ∨ c = 4 ∨ c = 5 ∨ c = 6 ∨ c = 7 := by omega
  apply Int32.toBitVec_inj.mp
  rcases h with rfl | rfl | rfl | rfl | rfl | rfl | rfl | rfl
  · exact rb_key y.toBitVec 0 (by decide)
  · exact rb_key y.toBitVec 8 (by decide)
  · exact rb_key y.toBitVec 16 (by decide)
  · exact rb_key y.toBitVec 24 (by decide)
  · exact rb_key y.toBitVec 32 (by decide)
  · exact rb_key y.toBitVec 40 (by decide)
  · exact rb_key y.toBitVec 48 (by decide)
  · exact rb_key y.toBitVec 56 (by decide)
