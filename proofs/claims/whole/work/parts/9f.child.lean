/-! THE CLASS: becomeChildOf -/
def ft_T (o : Nat) (M M' : fm_M) : Prop := M'.2.2 = M.2.2 ∧ (∀ q, q ≠ o → M'.1 q = M.1 q) ∧ (∀ q, q ≠ o + 1 → q ≠ o + 2 → q ≠ o + 3 → M'.2.1 q = M.2.1 q)
theorem ftT_rf (o : Nat) (M : fm_M) : ft_T o M M := ⟨rfl, fun _ _ => rfl, fun _ _ _ _ => rfl⟩
theorem ftT_tr {o : Nat} {M M1 M2 : fm_M} (h : ft_T o M M1) (g : ft_T o M1 M2) : ft_T o M M2 := ⟨g.1.trans h.1, fun q a => (g.2.1 q a).trans (h.2.1 q a), fun q a b c => (g.2.2 q a b c).trans (h.2.2 q a b c)⟩
theorem ftT_p1 {o k : Nat} {v : Int32} {M M1 : fm_M} (h : ft_T o M M1) : ft_T o M (fm_put1 M1 o k v) := ftT_tr h ⟨rfl, fun q a => funext (fun j => p1_other a), fun _ _ _ _ => rfl⟩
theorem ftT_p2 {o k j : Nat} {v : Int64} {M M1 : fm_M} (hk : 1 ≤ k ∧ k ≤ 3) (h : ft_T o M M1) : ft_T o M (fm_put2 M1 (o + k) j v) := ftT_tr h ⟨rfl, fun _ _ => rfl, fun q a b c => funext (fun i => p2_other (by omega))⟩
theorem cpy2_in {M : fm_M} {a c d k : Nat} (h : k < d) : (fm_cpy2 M a c 0 0 d).2.1 c k = M.2.1 a k := by
  show va_up M.2.1 c (va_cpy (M.2.1 a) (M.2.1 c) 0 0 d) c k = _
  rw [fm_upS, pk_cpy_in (Nat.zero_le _) (by omega), Nat.sub_zero, Nat.zero_add]
theorem cpy2_ot {M : fm_M} {a c d r : Nat} (h : r ≠ c) : (fm_cpy2 M a c 0 0 d).2.1 r = M.2.1 r := fm_upN h
theorem ftT_trc {o q dd pp : Nat} {M : fm_M} : ft_T o M (m_trc M o q dd pp) := by
  refine ⟨rfl, fun r h => funext (fun k => trc_oth h k), fun r a b c => ?_⟩
  unfold m_trc
  rw [cpy2_ot c, cpy2_ot b, cpy2_ot a]
  rfl
theorem trc_num {M : fm_M} {o q dd pp k : Nat} (hk : k < 10) : (m_trc M o q dd pp).1 o k = M.1 q k := by
  rcases (show k = 0 ∨ k = 1 ∨ k = 2 ∨ k = 3 ∨ k = 4 ∨ k = 5 ∨ k = 6 ∨ k = 7 ∨ k = 8 ∨ k = 9 by omega) with rfl | rfl | rfl | rfl | rfl | rfl | rfl | rfl | rfl | rfl <;> simp [m_trc, fm_put1, fm_cpy2, va_up]
theorem hcA_trc {o q : Nat} {M : fm_M} {P : ag_T} (hd : o + 3 < q ∨ q + 3 < o) (h : hc_A M q P) : hc_A (m_trc M o q P.2.1.length P.2.2.length) o P := by
  obtain ⟨h1, h2, h3, h4, h5⟩ := h
  refine ⟨fun k hk => (trc_num (by omega)).trans (h1 k hk), (trc_num (by decide)).trans h2, (trc_num (by decide)).trans h3, fun k v hv => ?_, fun k r hr => ?_⟩
  · have hk := (List.getElem?_eq_some_iff.mp hv).1
    unfold m_trc
    rw [cpy2_ot (by omega), cpy2_ot (by omega), cpy2_in hk]
    exact h4 k v hv
  · have hk := (List.getElem?_eq_some_iff.mp hr).1
    unfold m_trc
    rw [cpy2_ot (show o + 2 ≠ o + 3 by omega), cpy2_in hk, cpy2_ot (show q + 2 ≠ o + 1 by omega), cpy2_in hk, cpy2_ot (show q + 3 ≠ o + 2 by omega), cpy2_ot (show q + 3 ≠ o + 1 by omega)]
    exact h5 k r hr
/-- what holds of a traveller goes on to hold where others are written -/
theorem hcA_ft {o q : Nat} {M M' : fm_M} {A : ag_T} (hd : o + 3 < q ∨ q + 3 < o) (h : hc_A M q A) (f : ft_T o M M') : hc_A M' q A := by
  obtain ⟨h1, h2, h3, h4, h5⟩ := h
  have e0 := f.2.1 q (by omega)
  have e1 := f.2.2 (q + 1) (by omega) (by omega) (by omega)
  have e2 := f.2.2 (q + 2) (by omega) (by omega) (by omega)
  have e3 := f.2.2 (q + 3) (by omega) (by omega) (by omega)
  unfold hc_A
  rw [e0, e1, e2, e3]
  exact ⟨h1, h2, h3, h4, h5⟩
def ch_K (P : ag_T) (w : Nat) : ag_T := (va_up (va_up (va_up (va_up (va_up (va_up P.1 0 (P.1 0 + 4)) 3 w) 4 0) 5 0) 6 0) 7 0, P.2.1.set (P.2.1.length - 1) (.inl 1), P.2.2)
theorem hcA_top {M : fm_M} {tr d : Nat} {v64 : Int64} {v : bf_V} {N : Nat → Nat} {s : List bf_V} {p : List (bf_V × bf_V)} (hd : s.length - 1 = d) (hv : e64 v = v64) (h : hc_A M tr (N, s, p)) : hc_A (fm_put2 M (tr + 1) d v64) tr (N, s.set d v, p) := by
  obtain ⟨h1, h2, h3, h4, h5⟩ := h
  refine ⟨h1, ?_, h3, fun k w hw => ?_, fun k r hr => ⟨(p2_other (by omega)).trans (h5 k r hr).1, (p2_other (by omega)).trans (h5 k r hr).2⟩⟩
  · show M.1 tr 8 = nI (s.set d v).length
    rw [List.length_set]
    exact h2
  · have hw : (s.set d v)[k]? = some w := hw
    by_cases e : k = d
    · subst e
      have hk : k < s.length := by
        have := (List.getElem?_eq_some_iff.mp hw).1
        rw [List.length_set] at this
        exact this
      rw [List.getElem?_set_self hk] at hw
      cases hw
      exact (p2_same _ _ _ _).trans hv.symm
    · rw [List.getElem?_set_ne (Ne.symm e)] at hw
      exact (p2_at e).trans (h4 k w hw)
theorem c_child {l : Launch} {b : Nat} {x : Nat → Nat} {D : va_G} {dA : Nat → ClassId} {o q w : Nat} {P : ag_T} {n : Nat} {M : fm_M} (hT : tr_L n o) (gT : tr_L n q) (oP : tr_P M o) (qP : tr_P M q) (hd : o + 3 < q ∨ q + 3 < o) (h : hc_A M q P) (ok : ag_ok P) (hd1 : 1 ≤ P.2.1.length) (b7 : P.1 7 ≤ 1) : Met l y_Tr_becomeChildOf (Cond.code y_Tr_becomeChildOf b_Tr_becomeChildOf 3 none :: fm_T0) ({ frames := 2, cells := 0, slots := 0, locals := 70 }) (fm_Pc fm_lay fm_nf fm_fk fm_cl b x D dA (fm_tys dA) (fm_EX b x) false [.ref o, .ref q, .int (nI w)] n M) (fm_Qc fm_lay fm_nf fm_fk fm_cl b x D dA (fun r n' M' => r = none ∧ n' = n ∧ M' = fm_put2 (fm_put1 (fm_put1 (fm_put1 (fm_put1 (fm_put1 (fm_put1 (m_trc M o q P.2.1.length P.2.2.length) o 0 (nI (P.1 0 + 4))) o 3 (nI w)) o 4 (nI 0)) o 5 (nI 0)) o 6 (nI 0)) o 7 (nI 0)) (o + 1) (P.2.1.length - 1) 1)) 0 0 (fm_A b) := by
  refine fm_enter (by decide) (Nat.le_of_ble_eq_true rfl) ?_
  intro p e s m args below meth c9 hc hr hnm hex htg
  obtain ⟨h80, h3n, hl, hl1, hl2, hl3⟩ := hT
  obtain ⟨g80, g3n, gl, gl1, gl2, gl3⟩ := gT
  have ho : o < n := by omega
  have h8 : 8 ≤ o := by omega
  have g8 : 8 ≤ q := by omega
  have go : q < n := by omega
  have h1n : o + 1 < n := by omega
  have ho1 := oP.1
  have hb : M.1 q 7 = 0 ∨ M.1 q 7 = 1 := by
    have e := h.1 7 (by decide)
    rcases (show P.1 7 = 0 ∨ P.1 7 = 1 by omega) with g | g
    · exact Or.inl (e.trans (congrArg nI g))
    · exact Or.inr (e.trans (congrArg nI g))
  have l6 := ok.1
  refine fm_aload_n hc d_Tr_becomeChildOf_0 rfl rfl ?_
  refine fm_aload_n hc d_Tr_becomeChildOf_1 rfl rfl ?_
  refine fm_callV (av := [.ref q]) (rest := []) (ob := o) (ci := 5) (r0 := ("AgentNet$Traveller", F_Tr, 13)) (y := y_Tr_copyFrom) (bytes := b_Tr_copyFrom) hc fm_T0_good (fm_EX_st b x) hex q_583 q_8 q_679 q_581 q_582 pd_Tr_copyFrom h8 ho hl (by decide) rfl rfl (c_trc (by omega) ho h1n (by omega) h3n hl hl1 hl2 hl3 (by omega) go (by omega) (by omega) g3n gl gl1 gl2 gl3 (by omega) oP.1 oP.2.1 oP.2.2 qP.1 qP.2.1 qP.2.2 hb h.2.1 l6 h.2.2.1 ok.2.1) ⟨rfl, rfl, Nat.le_of_ble_eq_true rfl, Nat.le_of_ble_eq_true rfl⟩ ⟨Nat.le_of_ble_eq_true rfl, Nat.le_of_ble_eq_true rfl⟩ d_Tr_becomeChildOf_2 (Nat.le_of_ble_eq_true rfl) (fun r n2 M2 hp => ?_)
  obtain ⟨rfl, hq1, hq2⟩ := hp
  replace hq1 := hq1.symm
  replace hq2 := hq2.symm
  subst hq1 hq2
  refine fm_cnt (z' := (0, 0)) rfl (fm_st (st' := []) rfl ?_)
  refine fm_aload_n hc d_Tr_becomeChildOf_5 rfl rfl ?_
  refine fm_aload_n hc d_Tr_becomeChildOf_6 rfl rfl ?_
  refine fm_getI (k := 0) hc K_Tr d_Tr_becomeChildOf_7 q_171 rfl g8 go gl (by decide) (by decide) rfl ?_
  refine fm_top (congrArg Value.int ((trc_oth (by omega) 0).trans (h.1 0 (by decide)))) ?_
  refine fm_iconst (v := nI 4) hc d_Tr_becomeChildOf_10 rfl ?_
  refine fm_iadd hc d_Tr_becomeChildOf_11 ?_
  refine fm_top (congrArg Value.int (nI_add (P.1 0) 4)) ?_
  refine fm_putI (k := 0) (v := nI ((P.1 0) + 4)) hc K_Tr d_Tr_becomeChildOf_12 q_171 rfl h8 ho hl (by decide) (by decide) rfl rfl rfl rfl ?_
  refine fm_aload_n hc d_Tr_becomeChildOf_15 rfl rfl ?_
  refine fm_iload_n hc d_Tr_becomeChildOf_16 rfl rfl ?_
  refine fm_putI (k := 3) (v := nI w) hc K_Tr d_Tr_becomeChildOf_17 q_183 rfl h8 ho hl (by decide) (by decide) rfl rfl rfl rfl ?_
  refine fm_aload_n hc d_Tr_becomeChildOf_20 rfl rfl ?_
  refine fm_iconst (v := nI 0) hc d_Tr_becomeChildOf_21 rfl ?_
  refine fm_putI (k := 4) (v := nI 0) hc K_Tr d_Tr_becomeChildOf_22 q_188 rfl h8 ho hl (by decide) (by decide) rfl rfl rfl rfl ?_
  refine fm_aload_n hc d_Tr_becomeChildOf_25 rfl rfl ?_
  refine fm_iconst (v := nI 0) hc d_Tr_becomeChildOf_26 rfl ?_
  refine fm_putI (k := 5) (v := nI 0) hc K_Tr d_Tr_becomeChildOf_27 q_194 rfl h8 ho hl (by decide) (by decide) rfl rfl rfl rfl ?_
  refine fm_aload_n hc d_Tr_becomeChildOf_30 rfl rfl ?_
  refine fm_iconst (v := nI 0) hc d_Tr_becomeChildOf_31 rfl ?_
  refine fm_putI (k := 6) (v := nI 0) hc K_Tr d_Tr_becomeChildOf_32 q_199 rfl h8 ho hl (by decide) (by decide) rfl rfl rfl rfl ?_
  refine fm_aload_n hc d_Tr_becomeChildOf_35 rfl rfl ?_
  refine fm_iconst (v := nI 0) hc d_Tr_becomeChildOf_36 rfl ?_
  refine fm_putI (k := 7) (v := nI 0) hc K_Tr d_Tr_becomeChildOf_37 q_204 rfl h8 ho hl (by decide) (by decide) rfl rfl rfl rfl ?_
  refine fm_aload_n hc d_Tr_becomeChildOf_40 rfl rfl ?_
  refine fm_getI (k := 8) hc K_Tr d_Tr_becomeChildOf_41 q_208 rfl h8 ho hl (by decide) (by decide) rfl ?_
  refine fm_top (congrArg Value.int ((p1_at (by decide)).trans ((p1_at (by decide)).trans ((p1_at (by decide)).trans ((p1_at (by decide)).trans ((p1_at (by decide)).trans ((p1_at (by decide)).trans ((trc_num (by decide)).trans h.2.1)))))))) ?_
  refine fm_if_le (tgt := 59) hc d_Tr_becomeChildOf_44 rfl (fun g => absurd g (fun q => by have := (nI_leI (a := P.2.1.length) (b := 0) (by omega) (by decide)).mp q; omega)) (fun _ => ?_)
  refine fm_aload_n hc d_Tr_becomeChildOf_47 rfl rfl ?_
  refine fm_getR (k := 10) (q := o + 1) hc K_Tr d_Tr_becomeChildOf_48 q_216 rfl h8 ho hl (by decide) (by decide) rfl ho1 ?_
  refine fm_aload_n hc d_Tr_becomeChildOf_51 rfl rfl ?_
  refine fm_getI (k := 8) hc K_Tr d_Tr_becomeChildOf_52 q_208 rfl h8 ho hl (by decide) (by decide) rfl ?_
  refine fm_top (congrArg Value.int ((p1_at (by decide)).trans ((p1_at (by decide)).trans ((p1_at (by decide)).trans ((p1_at (by decide)).trans ((p1_at (by decide)).trans ((p1_at (by decide)).trans ((trc_num (by decide)).trans h.2.1)))))))) ?_
  refine fm_iconst (v := nI 1) hc d_Tr_becomeChildOf_55 rfl ?_
  refine fm_isub hc d_Tr_becomeChildOf_56 ?_
  refine fm_top (congrArg Value.int (pk_sub (a := P.2.1.length) (b := 1) (by omega))) ?_
  refine fm_lconst (v := 1) hc d_Tr_becomeChildOf_57 rfl ?_
  refine fm_last (j := P.2.1.length - 1) (len := 6) (v := 1) hc 3 d_Tr_becomeChildOf_58 (by omega) h1n hl1 rfl (by omega) (by decide) ?_
  exact fm_vret hc hr d_Tr_becomeChildOf_59 (Nat.le_refl _) (Nat.le_refl _) ⟨rfl, rfl, rfl⟩
theorem child_hc {o q w : Nat} {P : ag_T} {M : fm_M} (hd : o + 3 < q ∨ q + 3 < o) (h : hc_A M q P) : hc_A (fm_put2 (fm_put1 (fm_put1 (fm_put1 (fm_put1 (fm_put1 (fm_put1 (m_trc M o q P.2.1.length P.2.2.length) o 0 (nI (P.1 0 + 4))) o 3 (nI w)) o 4 (nI 0)) o 5 (nI 0)) o 6 (nI 0)) o 7 (nI 0)) (o + 1) (P.2.1.length - 1) 1) o (ch_K P w) ∧ ft_T o M (fm_put2 (fm_put1 (fm_put1 (fm_put1 (fm_put1 (fm_put1 (fm_put1 (m_trc M o q P.2.1.length P.2.2.length) o 0 (nI (P.1 0 + 4))) o 3 (nI w)) o 4 (nI 0)) o 5 (nI 0)) o 6 (nI 0)) o 7 (nI 0)) (o + 1) (P.2.1.length - 1) 1) :=
  ⟨hcA_top (N := (ch_K P w).1) rfl rfl (hcA_num (k := 7) (v := 0) (by decide) (hcA_num (k := 6) (v := 0) (by decide) (hcA_num (k := 5) (v := 0) (by decide) (hcA_num (k := 4) (v := 0) (by decide) (hcA_num (k := 3) (v := w) (by decide) (hcA_num (k := 0) (v := P.1 0 + 4) (by decide) (hcA_trc hd h))))))), ftT_p2 (k := 1) (by decide) (ftT_p1 (ftT_p1 (ftT_p1 (ftT_p1 (ftT_p1 (ftT_p1 ftT_trc))))))⟩
