/-! A HOST'S MEMORY as a mathematical value: slots, known, owed, notes, agents, the word of what is here, values, told; the class's memory at mm holds it -/
abbrev am_T : Type := (Nat → Nat) × (Nat → Int32) × (Nat → Int32) × (Nat → Int32) × (Nat → ag_T) × (Nat → Int32) × (Nat → Nat → Int32) × (Nat → Nat)
def hc_M (M : fm_M) (mm : Nat) : am_T → Prop := fun (S, K, O, T, G, H, V, _) =>
  (∀ a, a < 8 → M.1 (mm + 1) a = nI (S a)) ∧ (∀ a, a < 8 → M.1 (mm + 2) a = K a) ∧ (∀ a, a < 8 → M.1 (mm + 3) a = O a) ∧ (∀ a, a < 8 → M.1 (mm + 4) a = T a) ∧ (∀ a, a < 8 → M.1 (mm + 7) a = H a) ∧ (∀ a i, a < 8 → i < 16 → M.1 (mm + 8) (a * 16 + i) = V a i) ∧ (∀ a, a < 8 → S a ≠ 0 → hc_A M (mm + (9 + 4 * a)) (G a))
/-- what one instruction of agent a, of which sd outputs were said, does to the memory -/
def am_turn (a sd : Nat) (kid : ag_T) (st : Nat × Int32 × ag_T) : am_T → am_T := fun (S, K, O, T, G, H, V, D) => match st.1 with
  | 1 => (S, K, O, T, va_up G a st.2.2, va_up H a (H a ||| (nI 1 <<< (nI sd &&& 31))), va_up V a (va_up (V a) sd st.2.1), va_up D a (sd + 1))
  | 2 => (va_up S a 2, K, O, va_up T a st.2.1, va_up G a st.2.2, H, V, D)
  | 3 => (va_up S (a + 4) 1, va_up K (a + 4) 0, va_up O (a + 4) (-1), T, va_up (va_up G a st.2.2) (a + 4) kid, H, V, D)
  | 4 => (va_up S a 3, K, O, T, va_up G a st.2.2, H, V, D)
  | 5 => (va_up S a 4, K, O, T, va_up G a st.2.2, H, V, D)
  | _ => (S, K, O, T, va_up G a st.2.2, H, V, D)
theorem hcA_P {o q : Nat} {M M' : fm_M} {A : ag_T} (hd : o + 3 < q ∨ q + 3 < o) (hq : 65 < q) (h : hc_A M q A) (f : fr_P o M M') : hc_A M' q A := by
  obtain ⟨h1, h2, h3, h4, h5⟩ := h
  have e0 := f.2.1 q (by omega) (by omega)
  have e1 := f.2.2 (q + 1) (by omega) (by omega) (by omega) (by omega)
  have e2 := f.2.2 (q + 2) (by omega) (by omega) (by omega) (by omega)
  have e3 := f.2.2 (q + 3) (by omega) (by omega) (by omega) (by omega)
  unfold hc_A
  rw [e0, e1, e2, e3]
  exact ⟨h1, h2, h3, h4, h5⟩
/-- perform has changed agent a alone -/
theorem hcM_perf {mm a : Nat} {M M' : fm_M} {S : Nat → Nat} {K O T : Nat → Int32} {G : Nat → ag_T} {H : Nat → Int32} {V : Nat → Nat → Int32} {D : Nat → Nat} {A : ag_T} (hlo : 91 ≤ mm) (h : hc_M M mm (S, K, O, T, G, H, V, D)) (f : fr_P (mm + (9 + 4 * a)) M M') (hA : hc_A M' (mm + (9 + 4 * a)) A) : hc_M M' mm (S, K, O, T, va_up G a A, H, V, D) := by
  obtain ⟨h1, h2, h3, h4, h5, h6, h7⟩ := h
  have e := fun k (hk : k < 9) => f.2.1 (mm + k) (by omega) (by omega)
  refine ⟨?_, ?_, ?_, ?_, ?_, ?_, fun c hc hS => ?_⟩
  · rw [e 1 (by decide)]; exact h1
  · rw [e 2 (by decide)]; exact h2
  · rw [e 3 (by decide)]; exact h3
  · rw [e 4 (by decide)]; exact h4
  · rw [e 7 (by decide)]; exact h5
  · rw [e 8 (by decide)]; exact h6
  · by_cases g : c = a
    · subst g
      rw [fm_upS]
      exact hA
    · rw [fm_upN g]
      exact hcA_P (by omega) (by omega) (h7 c hc hS) f
theorem up_nI {S : Nat → Nat} {M : fm_M} {q a c v : Nat} (h : M.1 q c = nI (S c)) : (fm_put1 M q a (nI v)).1 q c = nI (va_up S a v c) := by
  by_cases g : c = a
  · subst g
    rw [p1_same, fm_upS]
  · rw [p1_at g, fm_upN g]
    exact h
theorem up_I {S : Nat → Int32} {M : fm_M} {q a c : Nat} {v : Int32} (h : M.1 q c = S c) : (fm_put1 M q a v).1 q c = va_up S a v c := by
  by_cases g : c = a
  · subst g
    rw [p1_same, fm_upS]
  · rw [p1_at g, fm_upN g]
    exact h
theorem hcM_slot2 {mm a : Nat} {M : fm_M} {S : Nat → Nat} {K O T : Nat → Int32} {G : Nat → ag_T} {H : Nat → Int32} {V : Nat → Nat → Int32} {D : Nat → Nat} (hS : S a ≠ 0) (h : hc_M M mm (S, K, O, T, G, H, V, D)) : hc_M (fm_put1 M (mm + 1) a (nI 2)) mm (va_up S a 2, K, O, T, G, H, V, D) := by
  obtain ⟨h1, h2, h3, h4, h5, h6, h7⟩ := h
  refine ⟨fun c hc => up_nI (h1 c hc), fun c hc => (p1_other (by omega)).trans (h2 c hc), fun c hc => (p1_other (by omega)).trans (h3 c hc), fun c hc => (p1_other (by omega)).trans (h4 c hc), fun c hc => (p1_other (by omega)).trans (h5 c hc), fun c i hc hi => (p1_other (by omega)).trans (h6 c i hc hi), fun c hc hs => hcA_o1 (by omega) (h7 c hc ?_)⟩
  by_cases g : c = a
  · rw [g]
    exact hS
  · rwa [fm_upN g] at hs
theorem hcM_slot3 {mm a : Nat} {M : fm_M} {S : Nat → Nat} {K O T : Nat → Int32} {G : Nat → ag_T} {H : Nat → Int32} {V : Nat → Nat → Int32} {D : Nat → Nat} (hS : S a ≠ 0) (h : hc_M M mm (S, K, O, T, G, H, V, D)) : hc_M (fm_put1 M (mm + 1) a (nI 3)) mm (va_up S a 3, K, O, T, G, H, V, D) := by
  obtain ⟨h1, h2, h3, h4, h5, h6, h7⟩ := h
  refine ⟨fun c hc => up_nI (h1 c hc), fun c hc => (p1_other (by omega)).trans (h2 c hc), fun c hc => (p1_other (by omega)).trans (h3 c hc), fun c hc => (p1_other (by omega)).trans (h4 c hc), fun c hc => (p1_other (by omega)).trans (h5 c hc), fun c i hc hi => (p1_other (by omega)).trans (h6 c i hc hi), fun c hc hs => hcA_o1 (by omega) (h7 c hc ?_)⟩
  by_cases g : c = a
  · rw [g]
    exact hS
  · rwa [fm_upN g] at hs
theorem hcM_slot4 {mm a : Nat} {M : fm_M} {S : Nat → Nat} {K O T : Nat → Int32} {G : Nat → ag_T} {H : Nat → Int32} {V : Nat → Nat → Int32} {D : Nat → Nat} (hS : S a ≠ 0) (h : hc_M M mm (S, K, O, T, G, H, V, D)) : hc_M (fm_put1 M (mm + 1) a (nI 4)) mm (va_up S a 4, K, O, T, G, H, V, D) := by
  obtain ⟨h1, h2, h3, h4, h5, h6, h7⟩ := h
  refine ⟨fun c hc => up_nI (h1 c hc), fun c hc => (p1_other (by omega)).trans (h2 c hc), fun c hc => (p1_other (by omega)).trans (h3 c hc), fun c hc => (p1_other (by omega)).trans (h4 c hc), fun c hc => (p1_other (by omega)).trans (h5 c hc), fun c i hc hi => (p1_other (by omega)).trans (h6 c i hc hi), fun c hc hs => hcA_o1 (by omega) (h7 c hc ?_)⟩
  by_cases g : c = a
  · rw [g]
    exact hS
  · rwa [fm_upN g] at hs
theorem hcM_note {mm a : Nat} {M : fm_M} {S : Nat → Nat} {K O T : Nat → Int32} {G : Nat → ag_T} {H : Nat → Int32} {V : Nat → Nat → Int32} {D : Nat → Nat} {v : Int32} (h : hc_M M mm (S, K, O, T, G, H, V, D)) : hc_M (fm_put1 M (mm + 4) a v) mm (S, K, O, va_up T a v, G, H, V, D) := by
  obtain ⟨h1, h2, h3, h4, h5, h6, h7⟩ := h
  exact ⟨fun c hc => (p1_other (by omega)).trans (h1 c hc), fun c hc => (p1_other (by omega)).trans (h2 c hc), fun c hc => (p1_other (by omega)).trans (h3 c hc), fun c hc => up_I (h4 c hc), fun c hc => (p1_other (by omega)).trans (h5 c hc), fun c i hc hi => (p1_other (by omega)).trans (h6 c i hc hi), fun c hc hs => hcA_o1 (by omega) (h7 c hc hs)⟩
theorem hcM_say {mm a : Nat} {M : fm_M} {S : Nat → Nat} {K O T : Nat → Int32} {G : Nat → ag_T} {H : Nat → Int32} {V : Nat → Nat → Int32} {D : Nat → Nat} {sd : Nat} {v : Int32} {D' : Nat → Nat} (ha : a < 8) (hsd : sd < 16) (h : hc_M M mm (S, K, O, T, G, H, V, D)) : hc_M (m_say M mm a sd v) mm (S, K, O, T, G, va_up H a (H a ||| (nI 1 <<< (nI sd &&& 31))), va_up V a (va_up (V a) sd v), D') := by
  obtain ⟨h1, h2, h3, h4, h5, h6, h7⟩ := h
  unfold m_say
  rw [h5 a ha]
  refine ⟨fun c hc => (p1_other (by omega)).trans ((p1_other (by omega)).trans (h1 c hc)), fun c hc => (p1_other (by omega)).trans ((p1_other (by omega)).trans (h2 c hc)), fun c hc => (p1_other (by omega)).trans ((p1_other (by omega)).trans (h3 c hc)), fun c hc => (p1_other (by omega)).trans ((p1_other (by omega)).trans (h4 c hc)), fun c hc => (p1_other (by omega)).trans (up_I (h5 c hc)), fun c i hc hi => ?_, fun c hc hs => hcA_o1 (by omega) (hcA_o1 (by omega) (h7 c hc hs))⟩
  by_cases g : c = a
  · subst g
    rw [fm_upS]
    by_cases g2 : i = sd
    · subst g2
      rw [p1_same, fm_upS]
    · rw [p1_at (by omega), fm_upN g2, p1_other (by omega)]
      exact h6 c i hc hi
  · rw [p1_at (by omega), fm_upN g, p1_other (by omega)]
    exact h6 c i hc hi
theorem hcM_kid {mm a : Nat} {M : fm_M} {S : Nat → Nat} {K O T : Nat → Int32} {G : Nat → ag_T} {H : Nat → Int32} {V : Nat → Nat → Int32} {D : Nat → Nat} {w : Nat} {P : ag_T} (ha : a < 4) (hlo : 91 ≤ mm) (hP : hc_A M (mm + (9 + 4 * a)) P) (hK : K (a + 4) = -1) (hO : O (a + 4) = -1) (h : hc_M M mm (S, K, O, T, G, H, V, D)) : hc_M (m_settle (m_kid M (mm + (9 + 4 * (a + 4))) (mm + (9 + 4 * a)) w P) mm (a + 4) (nI 0)) mm (va_up S (a + 4) 1, va_up K (a + 4) 0, va_up O (a + 4) (-1), T, va_up G (a + 4) (ch_K P w), H, V, D) := by
  obtain ⟨h1, h2, h3, h4, h5, h6, h7⟩ := h
  obtain ⟨k1, k2⟩ := child_hc (w := w) (show mm + (9 + 4 * (a + 4)) + 3 < mm + (9 + 4 * a) ∨ mm + (9 + 4 * a) + 3 < mm + (9 + 4 * (a + 4)) by omega) hP
  have k1 : hc_A (m_kid M (mm + (9 + 4 * (a + 4))) (mm + (9 + 4 * a)) w P) (mm + (9 + 4 * (a + 4))) (ch_K P w) := k1
  have k2 : ft_T (mm + (9 + 4 * (a + 4))) M (m_kid M (mm + (9 + 4 * (a + 4))) (mm + (9 + 4 * a)) w P) := k2
  generalize m_kid M (mm + (9 + 4 * (a + 4))) (mm + (9 + 4 * a)) w P = Mk at k1 k2
  have e := fun k (hk : k < 9) => k2.2.1 (mm + k) (by omega)
  have eK : (fm_put1 Mk (mm + 1) (a + 4) (nI 1)).1 (mm + 2) (a + 4) = -1 := by
    rw [p1_other (by omega), e 2 (by decide), h2 _ (by omega), hK]
  unfold m_settle
  rw [eK, if_pos (show (-1 : Int32) < nI 0 by decide)]
  refine ⟨fun c hc => (p1_other (by omega)).trans (up_nI (by rw [e 1 (by decide)]; exact h1 c hc)), fun c hc => up_I ((p1_other (by omega)).trans (by rw [e 2 (by decide)]; exact h2 c hc)), fun c hc => (p1_other (by omega)).trans ((p1_other (by omega)).trans ?_), fun c hc => (p1_other (by omega)).trans ((p1_other (by omega)).trans (by rw [e 4 (by decide)]; exact h4 c hc)), fun c hc => (p1_other (by omega)).trans ((p1_other (by omega)).trans (by rw [e 7 (by decide)]; exact h5 c hc)), fun c i hc hi => (p1_other (by omega)).trans ((p1_other (by omega)).trans (by rw [e 8 (by decide)]; exact h6 c i hc hi)), fun c hc hs => hcA_o1 (by omega) (hcA_o1 (by omega) ?_)⟩
  · rw [e 3 (by decide), h3 c hc]
    by_cases g : c = a + 4
    · rw [g, fm_upS, hO]
    · rw [fm_upN g]
  · by_cases g : c = a + 4
    · subst g
      rw [fm_upS]
      exact k1
    · rw [fm_upN g] at hs ⊢
      exact hcA_ft (by omega) (h7 c hc hs) k2
