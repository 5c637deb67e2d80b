/-! THE REFERENCE: a tick of one agent -/
theorem hrM_tick {b0 k : Nat} {M : fm_M} {S : Nat → Nat} {K O T : Nat → Int32} {G : Nat → ag_T} {H : Nat → Int32} {V : Nat → Nat → Int32} {D : Nat → Nat} (hk : k < 8) (hS : S k ≠ 0) (hw : ∀ a, a < 8 → S a ≠ 0 → ag_wf a (G a)) (h : hr_M M b0 (S, K, O, T, G, H, V, D)) : hr_M (fm_put1 M 610 (b0 + k) (nI ((G k).1 6 - 1))) b0 (S, K, O, T, va_up G k (ag_tick (G k)), H, V, D) := by
  obtain ⟨g, hg⟩ := h.2.2.2.2.2.2.2.2 k hk hS
  exact hrM_W hk (by decide) (fun a ha hs => (hw a ha hs).1) ⟨g, hrG_num (k := 6) (by decide) (by decide) hg⟩ (tick_wf (hw k hk hS)).2.2.2.2.2.2.2.2 (frW_p1 (Or.inl ⟨by decide, by decide, rfl⟩) (frW_rf _ M)) h
