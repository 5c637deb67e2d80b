/-! THE REFERENCE: what a host's step may change -/
def fr_R (b0 : Nat) (M M' : fm_M) : Prop := M'.2.2 = M.2.2 ∧ (∀ o j, ¬ (597 ≤ o ∧ o ≤ 602 ∧ b0 ≤ j ∧ j < b0 + 8) → ¬ (o = 603 ∧ 16 * b0 ≤ j ∧ j < 16 * b0 + 128) → ¬ (605 ≤ o ∧ o ≤ 614 ∧ b0 ≤ j ∧ j < b0 + 8) → o ≠ 604 → o ≠ 617 → o ≠ 618 → ¬ (o = 586 ∧ (j = 32 ∨ j = 50)) → M'.1 o j = M.1 o j) ∧ (∀ o j, ¬ (o = 613 ∧ 6 * b0 ≤ j ∧ j < 6 * b0 + 48) → ¬ ((o = 615 ∨ o = 616) ∧ 9 * b0 ≤ j ∧ j < 9 * b0 + 72) → o ≠ 619 → o ≠ 620 → M'.2.1 o j = M.2.1 o j)
theorem frR_rf (b0 : Nat) (M : fm_M) : fr_R b0 M M := ⟨rfl, fun _ _ _ _ _ _ _ _ _ => rfl, fun _ _ _ _ _ _ => rfl⟩
theorem frR_tr {b0 : Nat} {M M1 M2 : fm_M} (h : fr_R b0 M M1) (g : fr_R b0 M1 M2) : fr_R b0 M M2 := ⟨g.1.trans h.1, fun o j a b c d e f k => (g.2.1 o j a b c d e f k).trans (h.2.1 o j a b c d e f k), fun o j a b c d => (g.2.2 o j a b c d).trans (h.2.2 o j a b c d)⟩
theorem frR_p1 {b0 o j : Nat} {v : Int32} {M M1 : fm_M} (ho : (597 ≤ o ∧ o ≤ 602 ∧ b0 ≤ j ∧ j < b0 + 8) ∨ (o = 603 ∧ 16 * b0 ≤ j ∧ j < 16 * b0 + 128) ∨ o = 604 ∨ (o = 586 ∧ (j = 32 ∨ j = 50))) (h : fr_R b0 M M1) : fr_R b0 M (fm_put1 M1 o j v) := frR_tr h ⟨rfl, fun q i a b c d e f k => by
  by_cases g : q = o
  · subst g
    exact p1_at (fun g2 => by subst g2; omega)
  · exact p1_other g, fun _ _ _ _ _ _ => rfl⟩
theorem frR_W2 {b0 gi gc : Nat} {M M' : fm_M} (h1 : b0 ≤ gi ∧ gi < b0 + 8) (h2 : b0 ≤ gc ∧ gc < b0 + 8) (f : fr_W2 gi gc M M') : fr_R b0 M M' := ⟨f.1, fun o j a b c d e g k => f.2.1 o j (by omega) e g (by omega), fun o j a b c d => f.2.2 o j (by omega) (by omega) c d⟩
theorem frR_W {b0 gi : Nat} {M M' : fm_M} (h1 : b0 ≤ gi ∧ gi < b0 + 8) (f : fr_W gi M M') : fr_R b0 M M' := frR_W2 h1 h1 (frW2_W f)
theorem rW_R {b0 k : Nat} {M M' : fm_M} {A : ag_T} {st : Nat × Int32 × ag_T} (hk : k < 8) (h5 : A.1 5 < 16 ∨ st.1 ≠ 1) (hle : st.1 ≤ 5) (h3 : st.1 = 3 → k < 4) (w : rW_m (b0 + k) M A st M') : fr_R b0 M M' := by
  obtain ⟨ak, av, P⟩ := st
  obtain ⟨-, w2, w3⟩ := w
  have hle : ak ≤ 5 := hle
  have h0 : fr_R b0 M (fm_put1 M 586 50 (nI 0)) := frR_p1 (Or.inr (Or.inr (Or.inr ⟨rfl, Or.inr rfl⟩))) (frR_rf b0 M)
  rcases (show ak = 0 ∨ ak = 1 ∨ ak = 2 ∨ ak = 3 ∨ ak = 4 ∨ ak = 5 by omega) with rfl | rfl | rfl | rfl | rfl | rfl
  · exact frR_tr h0 (frR_W (by omega) (w2 (fun e => no3 e rfl)))
  · have h16 : A.1 5 < 16 := h5.resolve_right (fun q => q rfl)
    exact frR_tr (frR_p1 (Or.inl (by omega)) (frR_p1 (Or.inr (Or.inl (by omega))) h0)) (frR_W (by omega) (w2 (fun e => no3 e rfl)))
  · exact frR_tr (frR_p1 (Or.inl (by omega)) (frR_p1 (Or.inl (by omega)) (frR_p1 (Or.inl (by omega)) h0))) (frR_W (by omega) (w2 (fun e => no3 e rfl)))
  · have h4 : k < 4 := h3 rfl
    exact frR_tr (frR_p1 (Or.inl (by omega)) (frR_p1 (Or.inl (by omega)) (frR_p1 (Or.inl (by omega)) h0))) (frR_W2 (by omega) (by omega) (w3 rfl).1)
  · exact frR_tr (frR_p1 (Or.inr (Or.inr (Or.inr ⟨rfl, Or.inr rfl⟩))) h0) (frR_W (by omega) (w2 (fun e => no3 e rfl)))
  · exact frR_tr h0 (frR_W (by omega) (w2 (fun e => no3 e rfl)))
theorem frR_RP {b0 : Nat} {M M' : fm_M} (f : fr_R b0 M M') (h : fm_RP M) : fm_RP M' := fun q hq => by rw [f.1]; exact h q hq
theorem frR_lo {b0 o j : Nat} {M M' : fm_M} (h : o < 597) (h2 : o ≠ 586) (f : fr_R b0 M M') : M'.1 o j = M.1 o j := f.2.1 o j (by omega) (by omega) (by omega) (by omega) (by omega) (by omega) (by omega)
theorem hsR_R {b0 q : Nat} {M M' : fm_M} {sc : List Nat} (f : fr_R b0 M M') (h : hs_R M q sc) : hs_R M' q sc := ⟨(frR_lo (by decide) (by decide) f).trans h.1, h.2.1, fun k v hv => ⟨(frR_lo (by decide) (by decide) f).trans (h.2.2 k v hv).1, (h.2.2 k v hv).2⟩⟩
theorem hrM_t {b0 j : Nat} {v : Int32} {M : fm_M} {m : am_T} (h : hr_M M b0 m) : hr_M (fm_put1 M 604 j v) b0 m := by
  obtain ⟨S, K, O, T, G, H, V, D⟩ := m
  obtain ⟨h1, h2, h3, h4, h5, h6, h7, h8, h9⟩ := h
  refine ⟨fun a ha => (p1_other (by decide)).trans (h1 a ha), fun a ha hs => (p1_other (by decide)).trans (h2 a ha hs), fun a ha => (p1_other (by decide)).trans (h3 a ha), fun a ha => (p1_other (by decide)).trans (h4 a ha), fun a ha => (p1_other (by decide)).trans (h5 a ha), fun a ha => (p1_other (by decide)).trans (h6 a ha), fun a i ha hi => (p1_other (by decide)).trans (h7 a i ha hi), fun a ha => ?_, fun a ha hs => ?_⟩
  · rw [p1_other (by decide)]
    exact h8 a ha
  · obtain ⟨g, hg⟩ := h9 a ha hs
    exact ⟨g, hrG_o1 (Or.inl (by decide)) hg⟩
