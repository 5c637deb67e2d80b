/-! THE CLASS: grant entire -/
/-- of the memory mm and of the processor alone something changes -/
def fr_H (mm : Nat) (M M' : fm_M) : Prop := M'.2.2 = M.2.2 ∧ ∀ o, (o < mm ∨ mm + 41 ≤ o) → (o < 60 ∨ 65 < o) → M'.1 o = M.1 o ∧ M'.2.1 o = M.2.1 o
theorem frH_rf (mm : Nat) (M : fm_M) : fr_H mm M M := ⟨rfl, fun _ _ _ => ⟨rfl, rfl⟩⟩
theorem frH_tr {mm : Nat} {M M1 M2 : fm_M} (h : fr_H mm M M1) (g : fr_H mm M1 M2) : fr_H mm M M2 := ⟨g.1.trans h.1, fun o a c => ⟨(g.2 o a c).1.trans (h.2 o a c).1, (g.2 o a c).2.trans (h.2 o a c).2⟩⟩
theorem frH_p1 {mm k j : Nat} {v : Int32} {M M1 : fm_M} (hk : k < 41) (h : fr_H mm M M1) : fr_H mm M (fm_put1 M1 (mm + k) j v) := frH_tr h ⟨rfl, fun o a c => ⟨funext (fun i => p1_other (by omega)), rfl⟩⟩
theorem frH_ft {mm k : Nat} {M M1 : fm_M} (hk : k + 3 < 41) (h : ft_T (mm + k) M M1) : fr_H mm M M1 := ⟨h.1, fun o a c => ⟨h.2.1 o (by omega), h.2.2 o (by omega) (by omega) (by omega)⟩⟩
theorem frH_P {mm k : Nat} {M M1 : fm_M} (hk : k + 3 < 41) (h : fr_P (mm + k) M M1) : fr_H mm M M1 := ⟨h.1, fun o a c => ⟨h.2.1 o (by omega) c, h.2.2 o (by omega) (by omega) (by omega) c⟩⟩
theorem c_grant {l : Launch} {b : Nat} {x : Nat → Nat} {D : va_G} {dA : Nat → ClassId} {mm a n he : Nat} {S : Nat → Nat} {K O T : Nat → Int32} {G : Nat → ag_T} {H : Nat → Int32} {V : Nat → Nat → Int32} {D0 : Nat → Nat} {A : ag_T} {sc : List Nat} {tbl : Nat → Int32} {v : Int32} {M : fm_M} (hn : 586 ≤ n) (hM : fm_isM mm) (hP : fm_MP M mm) (ha : a < 8) (h : hc_M M mm (S, K, O, T, va_up G a (ag_step sc tbl he A).2.2, H, V, D0)) (hS : S a ≠ 0) (w : ag_wf a A) (hf : 1 ≤ A.1 3) (hsb : ∀ k v : Nat, sc[k]? = some v → v < 256) (hsl : sc.length ≤ 48) (hv : ((ag_step sc tbl he A).1 = 1 ∨ (ag_step sc tbl he A).1 = 2 ∨ (ag_step sc tbl he A).1 = 3) → v = (ag_step sc tbl he A).2.1) (hcl : (ag_step sc tbl he A).1 = 3 → K (a + 4) = -1 ∧ O (a + 4) = -1) : Met l y_Me_grant (Cond.code y_Me_grant b_Me_grant 4 none :: fm_T0) ({ frames := 3, cells := 0, slots := 0, locals := 110 }) (fm_Pc fm_lay fm_nf fm_fk fm_cl b x D dA (fm_tys dA) (fm_EX b x) false [.ref mm, .int (nI a), .int (nI (ag_step sc tbl he A).1), .int v] n M) (fm_Qc fm_lay fm_nf fm_fk fm_cl b x D dA (fun r n' M' => r = none ∧ n' = n ∧ hc_M M' mm (am_turn a (A.1 5) (ag_kidOf A (ag_step sc tbl he A).2.1.toInt.toNat) (ag_step sc tbl he A) (S, K, O, T, G, H, V, D0)) ∧ fr_H mm M M')) 0 0 (fm_A b) := by
  have hlo := isM_lo hM
  obtain ⟨s1, s2, s3, s4, s5, s6, s7⟩ := step_wf (he := he) (tbl := tbl) w hf hsb hsl
  have hA : hc_A M (mm + (9 + 4 * a)) (ag_step sc tbl he A).2.2 := by
    have k := h.2.2.2.2.2.2 a ha hS
    rw [fm_upS] at k
    exact k
  have hk := kid_eq (sc := sc) (tbl := tbl) (he := he) (A := A)
  generalize (ag_step sc tbl he A) = st at *
  obtain ⟨ak, av, P⟩ := st
  have s2 : ak ≤ 5 := s2
  rcases (show ak = 0 ∨ ak = 1 ∨ ak = 2 ∨ ak = 3 ∨ ak = 4 ∨ ak = 5 by omega) with rfl | rfl | rfl | rfl | rfl | rfl
  · exact fm_post (c_grant0 hn hM hP ha) (fun r n' M' q => ⟨q.1, q.2.1, by rw [q.2.2]; exact ⟨h, frH_rf mm M⟩⟩)
  · have ev : v = av := hv (Or.inl rfl)
    subst ev
    have e5 : P.1 5 = A.1 5 + 1 := s3
    have h16 : A.1 5 < 16 := by
      have := s1.2.2.2.2.2.2.1
      have : P.1 5 ≤ 16 := this
      omega
    exact fm_post (c_grant1 hn hM hP ha h16 ((hA.1 5 (by decide)).trans (congrArg nI e5))) (fun r n' M' q => ⟨q.1, q.2.1, by rw [q.2.2]; exact ⟨hcM_say ha h16 h, frH_p1 (by decide) (frH_p1 (by decide) (frH_rf mm M))⟩⟩)
  · have ev : v = av := hv (Or.inr (Or.inl rfl))
    subst ev
    exact fm_post (c_grant2 hn hM hP ha) (fun r n' M' q => ⟨q.1, q.2.1, by rw [q.2.2]; exact ⟨hcM_note (hcM_slot2 hS h), frH_p1 (by decide) (frH_p1 (by decide) (frH_rf mm M))⟩⟩)
  · have ev : v = av := hv (Or.inr (Or.inr rfl))
    subst ev
    obtain ⟨k1, k2, k3, k4, k5, k6, k7, -⟩ := hk rfl
    have a4 : a < 4 := by
      have := w.2.2.1
      omega
    have k7 : ¬ v < 1 := k7
    have e : v = nI v.toInt.toNat := (toN_of (v := v) (a := 1) (c := 2147483647) (lo := 1) (hi := 2147483647) rfl (by decide) ⟨k7, fun q => by
      have := Int32.lt_iff_toInt_lt.mp q
      have h2 : (2147483647 : Int32).toInt = 2147483647 := by decide
      have h3 := Int32.toInt_lt v
      omega⟩).1
    have b7 : P.1 7 ≤ 1 := s1.2.2.2.2.2.2.2.2
    have hg := c_grant3 (l := l) (b := b) (x := x) (D := D) (dA := dA) (w := v.toInt.toNat) hn hM hP a4 hA s1.1 k5 b7
    rw [← e] at hg
    refine fm_post hg (fun r n' M' q => ⟨q.1, q.2.1, ?_⟩)
    rw [q.2.2]
    have hm := hcM_kid (w := v.toInt.toNat) a4 hlo.1 hA (hcl rfl).1 (hcl rfl).2 h
    rw [show ch_K P v.toInt.toNat = ag_kidOf A v.toInt.toNat from k1] at hm
    exact ⟨hm, frH_p1 (k := 2) (by decide) (frH_p1 (k := 1) (by decide) (frH_ft (k := 9 + 4 * (a + 4)) (by omega) (child_hc (w := v.toInt.toNat) (by omega) hA).2))⟩
  · exact fm_post (c_grant4 hn hM hP ha) (fun r n' M' q => ⟨q.1, q.2.1, by rw [q.2.2]; exact ⟨hcM_slot3 hS h, frH_p1 (by decide) (frH_rf mm M)⟩⟩)
  · exact fm_post (c_grant5 hn hM hP ha) (fun r n' M' q => ⟨q.1, q.2.1, by rw [q.2.2]; exact ⟨hcM_slot4 hS h, frH_p1 (by decide) (frH_rf mm M)⟩⟩)
