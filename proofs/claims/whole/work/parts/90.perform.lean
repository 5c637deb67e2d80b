/-! PERFORM entire -/
theorem c_perform {l : Launch} {b : Nat} {x : Nat → Nat} {D : va_G} {dA : Nat → ClassId} {tr p0 tb he n : Nat} {A : ag_T} {sc : List Nat} {tbl : Nat → Int32} {M : fm_M} (hn : 586 ≤ n) (hT : tr_L n tr) (hT2 : tr < 82 ∨ 90 ≤ tr) (hP : tr_P M tr) (hN : fm_NP M) (h : hc_A M tr A) (ok : ag_ok A) (hp : p0 < 4) (hs : hs_S M p0 sc) (htb : 8 ≤ tb ∧ tb < 60 ∧ fm_lay tb = (100, 8) ∧ ∀ k, k < 8 → M.1 tb k = tbl k) (b0 : A.1 0 < 100) (b2 : A.1 2 < 900) (b3 : 1 ≤ A.1 3) (b3' : A.1 3 < 1000) (b5 : A.1 5 < 1000) (b7 : A.1 7 ≤ 1) : Met l y_Pr_perform (Cond.code y_Pr_perform b_Pr_perform 6 (some .int) :: fm_T0) ({ frames := 3, cells := 0, slots := 0, locals := 90 }) (fm_Pc fm_lay fm_nf fm_fk fm_cl b x D dA (fm_tys dA) (fm_EX b x) false [.ref 60, .ref tr, .ref (82 + 2 * p0), .ref tb, .int (nI he)] n (M)) (fm_Qc fm_lay fm_nf fm_fk fm_cl b x D dA (fun r n' M' => r = some (.int (nI (ag_step sc tbl he A).1)) ∧ n' = n ∧ hc_A M' tr (ag_step sc tbl he A).2.2 ∧ fr_P tr M M' ∧ (((ag_step sc tbl he A).1 = 1 ∨ (ag_step sc tbl he A).1 = 2 ∨ (ag_step sc tbl he A).1 = 3) → M'.1 60 5 = (ag_step sc tbl he A).2.1))) 0 0 (fm_A b) := by
  have hT' := hT
  obtain ⟨t8, t3, tl, tl1, tl2, tl3⟩ := hT'
  have h1 : hc_A (fm_put1 M tr 3 (nI (A.1 3 - 1))) tr ((va_up A.1 3 (A.1 3 - 1)), A.2.1, A.2.2) := hcA_num (by decide) h
  have hs1 : hs_S (fm_put1 M tr 3 (nI (A.1 3 - 1))) p0 sc := hs_p1 (by omega) (by omega) hs
  have hpl1 : (fm_put1 M tr 3 (nI (A.1 3 - 1))).1 tr 2 = nI (A.1 2) := (p1_at (by decide)).trans (h.1 2 (by decide))
  have hfu : M.1 tr 3 = nI (A.1 3) := h.1 3 (by decide)
  cases hr : ag_read sc (A.1 2) with
  | none =>
    have eS : (ag_step sc tbl he A) = (5, 0, (va_up A.1 3 (A.1 3 - 1)), A.2) := by
      unfold ag_step
      rw [hr]
    rw [eS]
    rcases rd_none hr with g | ⟨c, g1, g2⟩ | ⟨c, g1, g2, g3, g4⟩
    · refine fm_post (perf_f1 hn t8 (by omega) tl hfu b3 (c_read_1 hn t8 (by omega) tl hp hs1 hpl1 (by omega) g)) (fun r n' M' q => ⟨q.1, q.2.1, ?_⟩)
      rw [q.2.2]
      exact ⟨hcA_o1 (by omega) h1, (frP_p1 (Or.inr (by decide)) (frP_p1 (Or.inl rfl) (frP_rf tr M))), (fun g => by rcases g with g | g | g <;> cases g)⟩
    · refine fm_post (perf_f1 hn t8 (by omega) tl hfu b3 (c_read_2 hn t8 (by omega) tl hp hs1 hpl1 (by omega) g1 g2 (hs.2.2.2 _ _ g1).2)) (fun r n' M' q => ⟨q.1, q.2.1, ?_⟩)
      rw [q.2.2]
      exact ⟨hcA_o1 (by omega) h1, (frP_p1 (Or.inr (by decide)) (frP_p1 (Or.inl rfl) (frP_rf tr M))), (fun g => by rcases g with g | g | g <;> cases g)⟩
    · refine fm_post (perf_f1 hn t8 (by omega) tl hfu b3 (c_read_3 hn t8 (by omega) tl hp hs1 hpl1 (by omega) g1 g2 g3 g4)) (fun r n' M' q => ⟨q.1, q.2.1, ?_⟩)
      rw [q.2.2]
      exact ⟨hcA_o1 (by omega) (hcA_o1 (by omega) h1), (frP_p1 (Or.inr (by decide)) (frP_p1 (Or.inr (by decide)) (frP_p1 (Or.inl rfl) (frP_rf tr M)))), (fun g => by rcases g with g | g | g <;> cases g)⟩
  | some cy =>
    obtain ⟨c, y⟩ := cy
    obtain ⟨r1, r2, r3⟩ := rd_some hr
    have hy2 : y < 256 := by
      rcases r3 with ⟨g1, g2⟩ | ⟨g1, g2⟩
      · exact (hs.2.2.2 _ _ g2).2
      · omega
    have hrd : Met l y_Pr_read (Cond.code y_Pr_read b_Pr_read 3 (some .boolean) :: fm_T0) ({ frames := 1, cells := 0, slots := 0, locals := 25 }) (fm_Pc fm_lay fm_nf fm_fk fm_cl b x D dA (fm_tys dA) (fm_EX b x) false [.ref 60, .ref tr, .ref (82 + 2 * p0)] n (fm_put1 M tr 3 (nI (A.1 3 - 1)))) (fm_Qc fm_lay fm_nf fm_fk fm_cl b x D dA (fun r n' M' => r = some (.int (nI 1)) ∧ n' = n ∧ M' = fm_put1 (fm_put1 (fm_put1 M tr 3 (nI (A.1 3 - 1))) 60 1 (nI c)) 60 2 (nI y))) 0 0 (fm_A b) := by
      rcases r3 with ⟨g1, g2⟩ | ⟨g1, rfl⟩
      · exact c_read_4 hn t8 (by omega) tl hp hs1 hpl1 (by omega) r1 r2 g1 g2 hy2
      · exact c_read_5 hn t8 (by omega) tl hp hs1 hpl1 (by omega) r1 r2 g1
    have ha : hc_A (fm_put1 (fm_put1 (fm_put1 M tr 3 (nI (A.1 3 - 1))) 60 1 (nI c)) 60 2 (nI y)) tr ((va_up A.1 3 (A.1 3 - 1)), A.2.1, A.2.2) := hcA_o1 (by omega) (hcA_o1 (by omega) h1)
    have hca : (fm_put1 (fm_put1 (fm_put1 M tr 3 (nI (A.1 3 - 1))) 60 1 (nI c)) 60 2 (nI y)).1 60 1 = nI c := (p1_at (by decide)).trans (p1_same _ _ _ _)
    have hya : (fm_put1 (fm_put1 (fm_put1 M tr 3 (nI (A.1 3 - 1))) 60 1 (nI c)) 60 2 (nI y)).1 60 2 = nI y := p1_same _ _ _ _
    have okN : ag_ok ((va_up A.1 3 (A.1 3 - 1)), A.2.1, A.2.2) := ok
    obtain ⟨Mb, k1, k2, k3, k4, k5, k6⟩ := tk_case (l := l) (b := b) (x := x) (D := D) (dA := dA) hn hT (show tr_P (fm_put1 (fm_put1 (fm_put1 M tr 3 (nI (A.1 3 - 1))) 60 1 (nI c)) 60 2 (nI y)) tr from hP) ha okN (by omega : c < 20) hca
    have k6 : ag_takes c A = true → 1 ≤ ag_tk c → Mb.2.1 60 3 = e64 (ag_low c A) ∧ Mb.2.1 60 4 = e64 (ag_upp A) := k6
    have hP2 : tr_P Mb tr := by
      unfold tr_P
      rw [k3]
      exact hP
    have frb : fr_P tr M Mb := frP_tr (frP_p1 (Or.inr (by decide)) (frP_p1 (Or.inr (by decide)) (frP_p1 (Or.inl rfl) (frP_rf tr M)))) k5
    by_cases ht : ag_takes c A = true
    · have k1 : Met l y_Pr_takesFit (Cond.code y_Pr_takesFit b_Pr_takesFit 3 (some .boolean) :: fm_T0) ({ frames := 2, cells := 0, slots := 0, locals := 50 }) (fm_Pc fm_lay fm_nf fm_fk fm_cl b x D dA (fm_tys dA) (fm_EX b x) false [.ref 60, .ref tr] n (fm_put1 (fm_put1 (fm_put1 M tr 3 (nI (A.1 3 - 1))) 60 1 (nI c)) 60 2 (nI y))) (fm_Qc fm_lay fm_nf fm_fk fm_cl b x D dA (fun r n' M' => r = some (.int (nI 1)) ∧ n' = n ∧ M' = Mb)) 0 0 (fm_A b) := by
        rw [if_pos (show ag_takes c ((va_up A.1 3 (A.1 3 - 1)), A.2.1, A.2.2) = true from ht)] at k1
        exact k1
      have hcb : Mb.1 60 1 = nI c := by rw [k2]; exact hca
      have hyb : Mb.1 60 2 = nI y := by rw [k2]; exact hya
      have hbd := bd_case (l := l) (b := b) (x := x) (D := D) (dA := dA) hn hT hP2 k4 okN (by omega) hcb hyb hy2 (show A.1 5 < 1000 from b5) (show ag_takes c ((va_up A.1 3 (A.1 3 - 1)), A.2.1, A.2.2) = true from ht) (fun g => (k6 ht g).2)
      by_cases hb : ag_bnd c y A = true
      · have hbd : Met l y_Pr_boundsFit (Cond.code y_Pr_boundsFit b_Pr_boundsFit 2 (some .boolean) :: fm_T0) ({ frames := 0, cells := 0, slots := 0, locals := 0 }) (fm_Pc fm_lay fm_nf fm_fk fm_cl b x D dA (fm_tys dA) (fm_EX b x) false [.ref 60, .ref tr] n (Mb)) (fm_Qc fm_lay fm_nf fm_fk fm_cl b x D dA (fun r n' M' => r = some (.int (nI 1)) ∧ n' = n ∧ M' = Mb)) 0 0 (fm_A b) := by
          rw [bnd_num, if_pos hb] at hbd
          exact hbd
        obtain ⟨l1, l2, l3⟩ := take_len ht
        have h5 : hc_A (fm_put1 (fm_put1 Mb tr 2 (nI (A.1 2 + ag_sz c))) tr 8 (nI (A.2.1.length - ag_tk c))) tr ((va_up (va_up A.1 3 (A.1 3 - 1)) 2 (A.1 2 + ag_sz c)), A.2.1.take (A.2.1.length - ag_tk c), A.2.2) := hcA_take (by omega) (hcA_num (by decide) k4)
        have fr5 : fr_P tr M (fm_put1 (fm_put1 Mb tr 2 (nI (A.1 2 + ag_sz c))) tr 8 (nI (A.2.1.length - ag_tk c))) := frP_p1 (Or.inl rfl) (frP_p1 (Or.inl rfl) frb)
        have hl5 : (A.2.1.take (A.2.1.length - ag_tk c)).length = A.2.1.length - ag_tk c := by rw [List.length_take]; omega
        have hc5 : (fm_put1 (fm_put1 Mb tr 2 (nI (A.1 2 + ag_sz c))) tr 8 (nI (A.2.1.length - ag_tk c))).1 60 1 = nI c := (p1_other (by omega)).trans ((p1_other (by omega)).trans hcb)
        have hy5 : (fm_put1 (fm_put1 Mb tr 2 (nI (A.1 2 + ag_sz c))) tr 8 (nI (A.2.1.length - ag_tk c))).1 60 2 = nI y := (p1_other (by omega)).trans ((p1_other (by omega)).trans hyb)
        have okd : ag_ok (ag_do c y tbl he (va_up (va_up A.1 3 (A.1 3 - 1)) 2 (A.1 2 + ag_sz c)) (A.2.1.take (A.2.1.length - ag_tk c)) A.2.2 (ag_low c A) (ag_upp A)).2.2 := ok_do ok (by omega) ht hb
        have eS : (ag_step sc tbl he A) = ((ag_do c y tbl he (va_up (va_up A.1 3 (A.1 3 - 1)) 2 (A.1 2 + ag_sz c)) (A.2.1.take (A.2.1.length - ag_tk c)) A.2.2 (ag_low c A) (ag_upp A)).1, (ag_do c y tbl he (va_up (va_up A.1 3 (A.1 3 - 1)) 2 (A.1 2 + ag_sz c)) (A.2.1.take (A.2.1.length - ag_tk c)) A.2.2 (ag_low c A) (ag_upp A)).2.1, ag_can (ag_do c y tbl he (va_up (va_up A.1 3 (A.1 3 - 1)) 2 (A.1 2 + ag_sz c)) (A.2.1.take (A.2.1.length - ag_tk c)) A.2.2 (ag_low c A) (ag_upp A)).2.2) := by
          unfold ag_step
          rw [hr]
          simp only [ht, hb, Bool.and_self, if_true]
        rw [eS]
        have hP5 : tr_P (fm_put1 (fm_put1 Mb tr 2 (nI (A.1 2 + ag_sz c))) tr 8 (nI (A.2.1.length - ag_tk c))) tr := hP2
        have key : ∀ Mc : fm_M, hc_A Mc tr (ag_do c y tbl he (va_up (va_up A.1 3 (A.1 3 - 1)) 2 (A.1 2 + ag_sz c)) (A.2.1.take (A.2.1.length - ag_tk c)) A.2.2 (ag_low c A) (ag_upp A)).2.2 → fr_P tr (fm_put1 (fm_put1 Mb tr 2 (nI (A.1 2 + ag_sz c))) tr 8 (nI (A.2.1.length - ag_tk c))) Mc → (((ag_do c y tbl he (va_up (va_up A.1 3 (A.1 3 - 1)) 2 (A.1 2 + ag_sz c)) (A.2.1.take (A.2.1.length - ag_tk c)) A.2.2 (ag_low c A) (ag_upp A)).1 = 1 ∨ (ag_do c y tbl he (va_up (va_up A.1 3 (A.1 3 - 1)) 2 (A.1 2 + ag_sz c)) (A.2.1.take (A.2.1.length - ag_tk c)) A.2.2 (ag_low c A) (ag_upp A)).1 = 2 ∨ (ag_do c y tbl he (va_up (va_up A.1 3 (A.1 3 - 1)) 2 (A.1 2 + ag_sz c)) (A.2.1.take (A.2.1.length - ag_tk c)) A.2.2 (ag_low c A) (ag_upp A)).1 = 3) → Mc.1 60 5 = (ag_do c y tbl he (va_up (va_up A.1 3 (A.1 3 - 1)) 2 (A.1 2 + ag_sz c)) (A.2.1.take (A.2.1.length - ag_tk c)) A.2.2 (ag_low c A) (ag_upp A)).2.1) → Mc.2.2 60 0 = some 61 ∧ Met l y_Nu_renumber (Cond.code y_Nu_renumber b_Nu_renumber 3 none :: fm_T0) ({ frames := 2, cells := 0, slots := 0, locals := 45 }) (fm_Pc fm_lay fm_nf fm_fk fm_cl b x D dA (fm_tys dA) (fm_EX b x) false [.ref 61, .ref tr] n (Mc)) (fm_Qc fm_lay fm_nf fm_fk fm_cl b x D dA (fun r n' M' => r = none ∧ n' = n ∧ hc_A M' tr (ag_can (ag_do c y tbl he (va_up (va_up A.1 3 (A.1 3 - 1)) 2 (A.1 2 + ag_sz c)) (A.2.1.take (A.2.1.length - ag_tk c)) A.2.2 (ag_low c A) (ag_upp A)).2.2) ∧ fr_P tr M M' ∧ (((ag_do c y tbl he (va_up (va_up A.1 3 (A.1 3 - 1)) 2 (A.1 2 + ag_sz c)) (A.2.1.take (A.2.1.length - ag_tk c)) A.2.2 (ag_low c A) (ag_upp A)).1 = 1 ∨ (ag_do c y tbl he (va_up (va_up A.1 3 (A.1 3 - 1)) 2 (A.1 2 + ag_sz c)) (A.2.1.take (A.2.1.length - ag_tk c)) A.2.2 (ag_low c A) (ag_upp A)).1 = 2 ∨ (ag_do c y tbl he (va_up (va_up A.1 3 (A.1 3 - 1)) 2 (A.1 2 + ag_sz c)) (A.2.1.take (A.2.1.length - ag_tk c)) A.2.2 (ag_low c A) (ag_upp A)).1 = 3) → M'.1 60 5 = (ag_do c y tbl he (va_up (va_up A.1 3 (A.1 3 - 1)) 2 (A.1 2 + ag_sz c)) (A.2.1.take (A.2.1.length - ag_tk c)) A.2.2 (ag_low c A) (ag_upp A)).2.1))) 0 0 (fm_A b) := by
          intro Mc d2 d4 d3
          have frc := frP_tr fr5 d4
          have hNc : fm_NP Mc := by
            unfold fm_NP
            rw [frc.1]
            exact hN
          have hPc : tr_P Mc tr := by
            unfold tr_P
            rw [frc.1]
            exact hP
          exact ⟨hNc.1, fm_post (c_renumA hn hT hPc hNc d2 okd) (fun r n' M' q => ⟨q.1, q.2.1, q.2.2.1, frP_tr frc q.2.2.2.1, fun g => by rw [q.2.2.2.2]; exact d3 g⟩)⟩
        by_cases h14 : c < 14
        · obtain ⟨Mc, d1, d2, d3, d4⟩ := do_plain (l := l) (b := b) (x := x) (D := D) (dA := dA) (lo := ag_low c A) (up := ag_upp A) (tbl := tbl) (he := he) hn hT hP5 h5 (by rw [hl5]; exact l2) ok.2.1 hc5 hy5 hy2 (fun g => k6 ht g) h14 (fun g => ⟨fun e => kind_int (by rw [← e]; exact (l3 g).1), fun e => kind_int (by rw [← e]; exact (l3 g).2)⟩) (fun e => by subst e; rw [hl5]; have := hb; simp only [ag_bnd, decide_eq_true_eq] at this; show y < A.2.1.length - 0; omega) (fun e => by subst e; simpa [ag_bnd] using hb) (fun e => by
            subst e
            have hb2 := hb
            simp only [ag_bnd, Bool.and_eq_true, decide_eq_true_eq] at hb2
            exact ⟨Int32.not_lt.mpr hb2.1, Int32.not_lt.mpr hb2.2⟩) ⟨htb.1, htb.2.1, htb.2.2.1, fun k hk => by rw [fr5.2.1 tb (by omega) (by omega)]; exact htb.2.2.2 k hk⟩ (show A.1 0 < 100 from b0) (show A.1 7 ≤ 1 from b7) (show A.1 3 - 1 < 1000 by omega)
          obtain ⟨q1, q2⟩ := key Mc d2 d4 d3
          exact perf_plain hn t8 (by omega) tl hfu b3 hrd k1 hbd (by omega) hcb (k4.1 2 (by decide)) k4.2.1 l1 q1 h14 d1 q2
        · have hlu := fun g => lu_in (c := c) ok ht g
          have ht1 : 1 ≤ ag_tk c := by
            rcases (show c = 14 ∨ c = 15 ∨ c = 16 ∨ c = 17 ∨ c = 18 ∨ c = 19 by omega) with rfl | rfl | rfl | rfl | rfl | rfl <;> decide
          have hkk : (c = 15 ∨ c = 16 ∨ c = 17 ∨ c = 18) → ∃ k, ag_low c A = .inr k ∧ k < A.2.2.length := by
            intro e
            have e2 : ag_lo c = 2 := by rcases e with rfl | rfl | rfl | rfl <;> rfl
            obtain ⟨k, hk⟩ := kind_pair (by rw [← e2]; exact (l3 ht1).1)
            refine ⟨k, hk, ?_⟩
            have := (hlu ht1).1
            rw [hk] at this
            exact this
          obtain ⟨Mc, d1, d2, d3, d4⟩ := do_pairs (l := l) (b := b) (x := x) (D := D) (dA := dA) (lo := ag_low c A) (up := ag_upp A) (tbl := tbl) (he := he) hn hT hP5 h5 (by rw [hl5]; exact l2) ok.2.1 hc5 hy5 hy2 (fun g => k6 ht g) (by omega) (by omega) (e_of (Nat.le_trans ok.2.1 (by decide)) (hlu ht1).1) (e_of (Nat.le_trans ok.2.1 (by decide)) (hlu ht1).2) hkk (fun e => by subst e; simpa [ag_bnd] using hb)
          obtain ⟨q1, q2⟩ := key Mc d2 d4 d3
          exact perf_pairs hn t8 (by omega) tl hfu b3 hrd k1 hbd (by omega) hcb (k4.1 2 (by decide)) k4.2.1 l1 q1 (by omega) d1 q2
      · have eb : ag_bnd c y A = false := by simpa using hb
        have eS : (ag_step sc tbl he A) = (5, 0, (va_up A.1 3 (A.1 3 - 1)), A.2) := by
          unfold ag_step
          rw [hr]
          simp only [ht, eb, Bool.and_false, Bool.false_eq_true, if_false]
        rw [eS]
        have hbd : Met l y_Pr_boundsFit (Cond.code y_Pr_boundsFit b_Pr_boundsFit 2 (some .boolean) :: fm_T0) ({ frames := 0, cells := 0, slots := 0, locals := 0 }) (fm_Pc fm_lay fm_nf fm_fk fm_cl b x D dA (fm_tys dA) (fm_EX b x) false [.ref 60, .ref tr] n (Mb)) (fm_Qc fm_lay fm_nf fm_fk fm_cl b x D dA (fun r n' M' => r = some (.int (nI 0)) ∧ n' = n ∧ M' = Mb)) 0 0 (fm_A b) := by
          rw [bnd_num, eb] at hbd
          exact hbd
        refine fm_post (perf_f3 hn t8 (by omega) tl hfu b3 hrd k1 hbd) (fun r n' M' q => ⟨q.1, q.2.1, ?_⟩)
        rw [q.2.2]
        exact ⟨k4, frb, (fun g => by rcases g with g | g | g <;> cases g)⟩
    · have et : ag_takes c A = false := by simpa using ht
      have eS : (ag_step sc tbl he A) = (5, 0, (va_up A.1 3 (A.1 3 - 1)), A.2) := by
        unfold ag_step
        rw [hr]
        simp only [et, Bool.false_and, Bool.false_eq_true, if_false]
      rw [eS]
      have k1 : Met l y_Pr_takesFit (Cond.code y_Pr_takesFit b_Pr_takesFit 3 (some .boolean) :: fm_T0) ({ frames := 2, cells := 0, slots := 0, locals := 50 }) (fm_Pc fm_lay fm_nf fm_fk fm_cl b x D dA (fm_tys dA) (fm_EX b x) false [.ref 60, .ref tr] n (fm_put1 (fm_put1 (fm_put1 M tr 3 (nI (A.1 3 - 1))) 60 1 (nI c)) 60 2 (nI y))) (fm_Qc fm_lay fm_nf fm_fk fm_cl b x D dA (fun r n' M' => r = some (.int (nI 0)) ∧ n' = n ∧ M' = Mb)) 0 0 (fm_A b) := by
        rw [show ag_takes c ((va_up A.1 3 (A.1 3 - 1)), A.2.1, A.2.2) = false from et] at k1
        exact k1
      refine fm_post (perf_f2 hn t8 (by omega) tl hfu b3 hrd k1) (fun r n' M' q => ⟨q.1, q.2.1, ?_⟩)
      rw [q.2.2]
      exact ⟨k4, frb, (fun g => by rcases g with g | g | g <;> cases g)⟩
