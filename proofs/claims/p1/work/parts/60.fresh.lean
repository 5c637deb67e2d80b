/-! both fresh, and the law's long: what lies where -/
def fm_M2 : fm_M := fm_clr (m_Mo_init fm_M1) 629
theorem fr_AP : fm_AP fm_M2 := by
  show ∀ q ∈ fm_ap, fm_M2.2.2 q.1 q.2.1 = some q.2.2
  decide +kernel
theorem fr_RP : fm_RP fm_M2 := by
  show ∀ q ∈ fm_rp, fm_M2.2.2 586 q.1 = some q.2
  decide +kernel
theorem fr_up : ∀ j, j < 4 → fm_M2.1 (90 + 124 * j) 1 = 1 ∧ fm_M2.1 (90 + 124 * j) 2 = 0 := by decide +kernel
theorem fr_an : fm_M2.1 8 7 = 0 ∧ fm_M2.1 16 1 = 0 ∧ fm_M2.2.2 69 1 = some 73 := by decide +kernel
theorem fr_sc : ∀ j, j < 4 → fm_M2.1 (82 + 2 * j) 1 = 0 ∧ fm_M2.2.2 (82 + 2 * j) 0 = some (83 + 2 * j) := by decide +kernel
theorem fr_me : ∀ j, j < 4 → fm_M2.2.2 (90 + 124 * j) 3 = some (91 + 124 * j) ∧ fm_M2.2.2 (91 + 124 * j) 0 = some (92 + 124 * j) ∧ fm_M2.2.2 (91 + 124 * j) 1 = some (93 + 124 * j) ∧ fm_M2.2.2 (91 + 124 * j) 3 = some (95 + 124 * j) := by decide +kernel
theorem fr_met : ∀ i, i < 8 → fm_M2.1 73 i = 0 := by decide +kernel
theorem fr_slot : ∀ j, j < 4 → ∀ i, i < 8 → fm_M2.1 (92 + 124 * j) i = 0 ∧ fm_M2.1 597 (24 * j + i) = 0 := by decide +kernel
theorem fr_tell : ∀ j, j < 4 → ∀ i, i < 8 → fm_M2.1 (93 + 124 * j) i = fm_M2.1 599 (24 * j + i) ∧ fm_M2.1 (95 + 124 * j) i = fm_M2.1 601 (24 * j + i) := by decide +kernel
theorem fr_ref : fm_M2.1 586 4 = 0 ∧ fm_M2.1 586 37 = 0 ∧ fm_M2.1 586 0 = 0 := by decide +kernel
theorem fr_rup : ∀ j, j < 4 → fm_M2.1 595 j = 1 ∧ fm_M2.1 596 j = 0 ∧ fm_M2.1 588 j = 0 := by decide +kernel
theorem fr_cnt : ∀ i, i < 8 → fm_M2.1 593 i = 0 ∧ fm_M2.1 67 i = 0 := by decide +kernel
