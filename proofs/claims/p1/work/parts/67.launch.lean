/-! launch: begin, settle, copies of agents; the free run of an empty program -/
theorem p1_at {M : fm_M} {o k j : Nat} {v : Int32} (h : j ≠ k) : (fm_put1 M o k v).1 o j = M.1 o j := by simp [fm_put1, va_up, h]
/-- the reference's part and the law's long stay -/
def fm_hi (M M' : fm_M) : Prop := ∀ o, 586 ≤ o → M'.1 o = M.1 o ∧ M'.2.1 o = M.2.1 o ∧ M'.2.2 o = M.2.2 o
theorem hi_rf (M : fm_M) : fm_hi M M := fun _ _ => ⟨rfl, rfl, rfl⟩
theorem hi_tr {M M1 M2 : fm_M} (h : fm_hi M M1) (g : fm_hi M1 M2) : fm_hi M M2 := fun o ho => ⟨(g o ho).1.trans (h o ho).1, (g o ho).2.1.trans (h o ho).2.1, (g o ho).2.2.trans (h o ho).2.2⟩
theorem hi_p1 {M M1 : fm_M} {o k : Nat} {v : Int32} (ho : o < 586) (h : fm_hi M M1) : fm_hi M (fm_put1 M1 o k v) := hi_tr h (fun q hq => ⟨by simp [fm_put1, va_up, show q ≠ o by omega], rfl, rfl⟩)
theorem hi_p2 {M M1 : fm_M} {o k : Nat} {v : Int64} (ho : o < 586) (h : fm_hi M M1) : fm_hi M (fm_put2 M1 o k v) := hi_tr h (fun q hq => ⟨rfl, by simp [fm_put2, va_up, show q ≠ o by omega], rfl⟩)
theorem hi_c2 {M M1 : fm_M} {o0 o1 a d k : Nat} (ho : o1 < 586) (h : fm_hi M M1) : fm_hi M (fm_cpy2 M1 o0 o1 a d k) := hi_tr h (fun q hq => ⟨rfl, by simp [fm_cpy2, va_up, show q ≠ o1 by omega], rfl⟩)
def m_begin (M : fm_M) (o : Nat) (v w u : Int32) : fm_M := fm_put1 (fm_put1 (fm_put1 (fm_put1 (fm_put1 (fm_put1 (fm_put1 (fm_put1 (fm_put1 (fm_put1 M o 0 v) o 1 w) o 2 (nI 0)) o 3 u) o 4 (nI 0)) o 5 (nI 0)) o 6 (nI 0)) o 7 (nI 0)) o 8 (nI 0)) o 9 (nI 0)
theorem c_begin {l : Launch} {b : Nat} {x : Nat → Nat} {D : va_G} {dA : Nat → ClassId} {o : Nat} {v w u : Int32} {n : Nat} {M : fm_M} (h8 : 8 ≤ o) (ho : o < n) (hl : (fm_lay o).1 = 5) : Met l y_Tr_begin (Cond.code y_Tr_begin b_Tr_begin 4 none :: fm_T0) ({ frames := 0, cells := 0, slots := 0, locals := 0 }) (fm_Pc fm_lay fm_nf fm_fk fm_cl b x D dA (fm_tys dA) (fm_EX b x) false [.ref o, .int v, .int w, .int u] n M) (fm_Qc fm_lay fm_nf fm_fk fm_cl b x D dA (fun r n' M' => r = none ∧ n' = n ∧ M' = m_begin M o v w u)) 0 0 (fm_A b) := by
  refine fm_enter (by decide) (Nat.le_of_ble_eq_true rfl) ?_
  intro p e s m args below meth c hc hr hnm hex htg
  refine fm_aload_n hc d_Tr_begin_0 rfl rfl ?_
  refine fm_iload_n hc d_Tr_begin_1 rfl rfl ?_
  refine fm_putI (k := 0) (v := v) hc K_Tr d_Tr_begin_2 q_171 rfl h8 ho hl (by decide) (by decide) rfl rfl rfl rfl ?_
  refine fm_aload_n hc d_Tr_begin_5 rfl rfl ?_
  refine fm_iload_n hc d_Tr_begin_6 rfl rfl ?_
  refine fm_putI (k := 1) (v := w) hc K_Tr d_Tr_begin_7 q_176 rfl h8 ho hl (by decide) (by decide) rfl rfl rfl rfl ?_
  refine fm_aload_n hc d_Tr_begin_10 rfl rfl ?_
  refine fm_iconst (v := nI 0) hc d_Tr_begin_11 rfl ?_
  refine fm_putI (k := 2) (v := nI 0) hc K_Tr d_Tr_begin_12 q_180 rfl h8 ho hl (by decide) (by decide) rfl rfl rfl rfl ?_
  refine fm_aload_n hc d_Tr_begin_15 rfl rfl ?_
  refine fm_iload_n hc d_Tr_begin_16 rfl rfl ?_
  refine fm_putI (k := 3) (v := u) hc K_Tr d_Tr_begin_17 q_183 rfl h8 ho hl (by decide) (by decide) rfl rfl rfl rfl ?_
  refine fm_aload_n hc d_Tr_begin_20 rfl rfl ?_
  refine fm_iconst (v := nI 0) hc d_Tr_begin_21 rfl ?_
  refine fm_putI (k := 4) (v := nI 0) hc K_Tr d_Tr_begin_22 q_188 rfl h8 ho hl (by decide) (by decide) rfl rfl rfl rfl ?_
  refine fm_aload_n hc d_Tr_begin_25 rfl rfl ?_
  refine fm_iconst (v := nI 0) hc d_Tr_begin_26 rfl ?_
  refine fm_putI (k := 5) (v := nI 0) hc K_Tr d_Tr_begin_27 q_194 rfl h8 ho hl (by decide) (by decide) rfl rfl rfl rfl ?_
  refine fm_aload_n hc d_Tr_begin_30 rfl rfl ?_
  refine fm_iconst (v := nI 0) hc d_Tr_begin_31 rfl ?_
  refine fm_putI (k := 6) (v := nI 0) hc K_Tr d_Tr_begin_32 q_199 rfl h8 ho hl (by decide) (by decide) rfl rfl rfl rfl ?_
  refine fm_aload_n hc d_Tr_begin_35 rfl rfl ?_
  refine fm_iconst (v := nI 0) hc d_Tr_begin_36 rfl ?_
  refine fm_putI (k := 7) (v := nI 0) hc K_Tr d_Tr_begin_37 q_204 rfl h8 ho hl (by decide) (by decide) rfl rfl rfl rfl ?_
  refine fm_aload_n hc d_Tr_begin_40 rfl rfl ?_
  refine fm_iconst (v := nI 0) hc d_Tr_begin_41 rfl ?_
  refine fm_putI (k := 8) (v := nI 0) hc K_Tr d_Tr_begin_42 q_208 rfl h8 ho hl (by decide) (by decide) rfl rfl rfl rfl ?_
  refine fm_aload_n hc d_Tr_begin_45 rfl rfl ?_
  refine fm_iconst (v := nI 0) hc d_Tr_begin_46 rfl ?_
  refine fm_putI (k := 9) (v := nI 0) hc K_Tr d_Tr_begin_47 q_212 rfl h8 ho hl (by decide) (by decide) rfl rfl rfl rfl ?_
  exact fm_vret hc hr d_Tr_begin_50 (Nat.le_refl _) (Nat.le_refl _) ⟨rfl, rfl, rfl⟩
def m_settle (M : fm_M) (mm i : Nat) (w : Int32) : fm_M := fm_put1 (fm_put1 M (mm + 1) i (nI 1)) (mm + 2) i (if ((fm_put1 M (mm + 1) i (nI 1)).1 (mm + 2) i) < w then w else ((fm_put1 M (mm + 1) i (nI 1)).1 (mm + 2) i))
theorem c_settle {l : Launch} {b : Nat} {x : Nat → Nat} {D : va_G} {dA : Nat → ClassId} {mm i : Nat} {w : Int32} {n : Nat} {M : fm_M} (hn : 586 ≤ n) (hM : fm_isM mm) (hP : fm_MP M mm) (hi : i < 8) : Met l y_Me_settle (Cond.code y_Me_settle b_Me_settle 3 none :: fm_T0) ({ frames := 1, cells := 0, slots := 0, locals := 20 }) (fm_Pc fm_lay fm_nf fm_fk fm_cl b x D dA (fm_tys dA) (fm_EX b x) false [.ref mm, .int (nI i), .int w] n M) (fm_Qc fm_lay fm_nf fm_fk fm_cl b x D dA (fun r n' M' => r = none ∧ n' = n ∧ M' = m_settle M mm i w)) 0 0 (fm_A b) := by
  refine fm_enter (by decide) (Nat.le_of_ble_eq_true rfl) ?_
  intro p e s m args below meth c hc hr hnm hex htg
  have hlo := isM_lo hM
  refine fm_aload_n hc d_Me_settle_0 rfl rfl ?_
  refine fm_getR (k := 0) (q := mm + 1) hc K_Me d_Me_settle_1 q_305 rfl (by omega) (by omega) (ly_M0 hM) (by decide) (by decide) rfl hP.1 ?_
  refine fm_iload_n hc d_Me_settle_4 rfl rfl ?_
  refine fm_iconst (v := nI 1) hc d_Me_settle_5 rfl ?_
  refine fm_iast (j := i) (len := 8) (v := nI 1) hc 0 d_Me_settle_6 (by omega) (by omega) (ly_M hM (k := 1) (by omega)) rfl (by omega) (by decide) ?_
  refine fm_aload_n hc d_Me_settle_7 rfl rfl ?_
  refine fm_getR (k := 1) (q := mm + 2) hc K_Me d_Me_settle_8 q_308 rfl (by omega) (by omega) (ly_M0 hM) (by decide) (by decide) rfl hP.2.1 ?_
  refine fm_iload_n hc d_Me_settle_11 rfl rfl ?_
  refine fm_aload_n hc d_Me_settle_12 rfl rfl ?_
  refine fm_getR (k := 1) (q := mm + 2) hc K_Me d_Me_settle_13 q_308 rfl (by omega) (by omega) (ly_M0 hM) (by decide) (by decide) rfl hP.2.1 ?_
  refine fm_iload_n hc d_Me_settle_16 rfl rfl ?_
  refine fm_iald (j := i) (len := 8) hc 0 d_Me_settle_17 (by omega) (by omega) (ly_M hM (k := 2) (by omega)) rfl (by omega) (by decide) ?_
  refine fm_iload_n hc d_Me_settle_18 rfl rfl ?_
  refine fm_mmax hc q_575 q_446 q_19 q_max d_Me_settle_19 (Nat.le_of_ble_eq_true rfl) (Nat.le_of_ble_eq_true rfl) (Nat.le_of_ble_eq_true rfl) (Nat.le_of_ble_eq_true rfl) ?_
  refine fm_iast (j := i) (len := 8) (v := if ((fm_put1 M (mm + 1) i (nI 1)).1 (mm + 2) i) < w then w else ((fm_put1 M (mm + 1) i (nI 1)).1 (mm + 2) i)) hc 0 d_Me_settle_22 (by omega) (by omega) (ly_M hM (k := 2) (by omega)) rfl (by omega) (by decide) ?_
  exact fm_vret hc hr d_Me_settle_23 (Nat.le_refl _) (Nat.le_refl _) ⟨rfl, rfl, rfl⟩
def m_trc (M : fm_M) (o q dd pp : Nat) : fm_M := fm_cpy2 (fm_cpy2 (fm_cpy2 (fm_put1 (fm_put1 (fm_put1 (fm_put1 (fm_put1 (fm_put1 (fm_put1 (fm_put1 (fm_put1 (fm_put1 M o 0 (M.1 q 0)) o 1 (M.1 q 1)) o 2 (M.1 q 2)) o 3 (M.1 q 3)) o 4 (M.1 q 4)) o 5 (M.1 q 5)) o 6 (M.1 q 6)) o 7 (M.1 q 7)) o 8 (M.1 q 8)) o 9 (M.1 q 9)) (q + 1) (o + 1) 0 0 dd) (q + 2) (o + 2) 0 0 pp) (q + 3) (o + 3) 0 0 pp
theorem c_trc {l : Launch} {b : Nat} {x : Nat → Nat} {D : va_G} {dA : Nat → ClassId} {o q dd pp : Nat} {n : Nat} {M : fm_M} (h8 : 8 ≤ o) (ho : o < n) (h1n : o + 1 < n) (h2n : o + 2 < n) (h3n : o + 3 < n) (hl : (fm_lay o).1 = 5) (hl1 : fm_lay (o + 1) = (110, 6)) (hl2 : fm_lay (o + 2) = (110, 8)) (hl3 : fm_lay (o + 3) = (110, 8)) (g8 : 8 ≤ q) (go : q < n) (g1n : q + 1 < n) (g2n : q + 2 < n) (g3n : q + 3 < n) (gl : (fm_lay q).1 = 5) (gl1 : fm_lay (q + 1) = (110, 6)) (gl2 : fm_lay (q + 2) = (110, 8)) (gl3 : fm_lay (q + 3) = (110, 8)) (hne : q ≠ o) (ho1 : M.2.2 o 10 = some (o + 1)) (ho2 : M.2.2 o 11 = some (o + 2)) (ho3 : M.2.2 o 12 = some (o + 3)) (go1 : M.2.2 q 10 = some (q + 1)) (go2 : M.2.2 q 11 = some (q + 2)) (go3 : M.2.2 q 12 = some (q + 3)) (hb : M.1 q 7 = 0 ∨ M.1 q 7 = 1) (hd : M.1 q 8 = nI dd) (hdd : dd ≤ 6) (hp : M.1 q 9 = nI pp) (hpp : pp ≤ 8) : Met l y_Tr_copyFrom (Cond.code y_Tr_copyFrom b_Tr_copyFrom 2 none :: fm_T0) ({ frames := 1, cells := 0, slots := 0, locals := 40 }) (fm_Pc fm_lay fm_nf fm_fk fm_cl b x D dA (fm_tys dA) (fm_EX b x) false [.ref o, .ref q] n M) (fm_Qc fm_lay fm_nf fm_fk fm_cl b x D dA (fun r n' M' => r = none ∧ n' = n ∧ M' = m_trc M o q dd pp)) 0 0 (fm_A b) := by
  refine fm_enter (by decide) (Nat.le_of_ble_eq_true rfl) ?_
  intro p e s m args below meth c hc hr hnm hex htg
  refine fm_aload_n hc d_Tr_copyFrom_0 rfl rfl ?_
  refine fm_aload_n hc d_Tr_copyFrom_1 rfl rfl ?_
  refine fm_getI (k := 0) hc K_Tr d_Tr_copyFrom_2 q_171 rfl g8 go gl (by decide) (by decide) rfl ?_
  refine fm_putI (k := 0) (v := M.1 q 0) hc K_Tr d_Tr_copyFrom_5 q_171 rfl h8 ho hl (by decide) (by decide) rfl rfl rfl rfl ?_
  refine fm_aload_n hc d_Tr_copyFrom_8 rfl rfl ?_
  refine fm_aload_n hc d_Tr_copyFrom_9 rfl rfl ?_
  refine fm_getI (k := 1) hc K_Tr d_Tr_copyFrom_10 q_176 rfl g8 go gl (by decide) (by decide) rfl ?_
  refine fm_top (congrArg Value.int (p1_other hne)) ?_
  refine fm_putI (k := 1) (v := M.1 q 1) hc K_Tr d_Tr_copyFrom_13 q_176 rfl h8 ho hl (by decide) (by decide) rfl rfl rfl rfl ?_
  refine fm_aload_n hc d_Tr_copyFrom_16 rfl rfl ?_
  refine fm_aload_n hc d_Tr_copyFrom_17 rfl rfl ?_
  refine fm_getI (k := 2) hc K_Tr d_Tr_copyFrom_18 q_180 rfl g8 go gl (by decide) (by decide) rfl ?_
  refine fm_top (congrArg Value.int ((p1_other hne).trans (p1_other hne))) ?_
  refine fm_putI (k := 2) (v := M.1 q 2) hc K_Tr d_Tr_copyFrom_21 q_180 rfl h8 ho hl (by decide) (by decide) rfl rfl rfl rfl ?_
  refine fm_aload_n hc d_Tr_copyFrom_24 rfl rfl ?_
  refine fm_aload_n hc d_Tr_copyFrom_25 rfl rfl ?_
  refine fm_getI (k := 3) hc K_Tr d_Tr_copyFrom_26 q_183 rfl g8 go gl (by decide) (by decide) rfl ?_
  refine fm_top (congrArg Value.int ((p1_other hne).trans ((p1_other hne).trans (p1_other hne)))) ?_
  refine fm_putI (k := 3) (v := M.1 q 3) hc K_Tr d_Tr_copyFrom_29 q_183 rfl h8 ho hl (by decide) (by decide) rfl rfl rfl rfl ?_
  refine fm_aload_n hc d_Tr_copyFrom_32 rfl rfl ?_
  refine fm_aload_n hc d_Tr_copyFrom_33 rfl rfl ?_
  refine fm_getI (k := 4) hc K_Tr d_Tr_copyFrom_34 q_188 rfl g8 go gl (by decide) (by decide) rfl ?_
  refine fm_top (congrArg Value.int ((p1_other hne).trans ((p1_other hne).trans ((p1_other hne).trans (p1_other hne))))) ?_
  refine fm_putI (k := 4) (v := M.1 q 4) hc K_Tr d_Tr_copyFrom_37 q_188 rfl h8 ho hl (by decide) (by decide) rfl rfl rfl rfl ?_
  refine fm_aload_n hc d_Tr_copyFrom_40 rfl rfl ?_
  refine fm_aload_n hc d_Tr_copyFrom_41 rfl rfl ?_
  refine fm_getI (k := 5) hc K_Tr d_Tr_copyFrom_42 q_194 rfl g8 go gl (by decide) (by decide) rfl ?_
  refine fm_top (congrArg Value.int ((p1_other hne).trans ((p1_other hne).trans ((p1_other hne).trans ((p1_other hne).trans (p1_other hne)))))) ?_
  refine fm_putI (k := 5) (v := M.1 q 5) hc K_Tr d_Tr_copyFrom_45 q_194 rfl h8 ho hl (by decide) (by decide) rfl rfl rfl rfl ?_
  refine fm_aload_n hc d_Tr_copyFrom_48 rfl rfl ?_
  refine fm_aload_n hc d_Tr_copyFrom_49 rfl rfl ?_
  refine fm_getI (k := 6) hc K_Tr d_Tr_copyFrom_50 q_199 rfl g8 go gl (by decide) (by decide) rfl ?_
  refine fm_top (congrArg Value.int ((p1_other hne).trans ((p1_other hne).trans ((p1_other hne).trans ((p1_other hne).trans ((p1_other hne).trans (p1_other hne))))))) ?_
  refine fm_putI (k := 6) (v := M.1 q 6) hc K_Tr d_Tr_copyFrom_53 q_199 rfl h8 ho hl (by decide) (by decide) rfl rfl rfl rfl ?_
  refine fm_aload_n hc d_Tr_copyFrom_56 rfl rfl ?_
  refine fm_aload_n hc d_Tr_copyFrom_57 rfl rfl ?_
  refine fm_getI (k := 7) hc K_Tr d_Tr_copyFrom_58 q_204 rfl g8 go gl (by decide) (by decide) rfl ?_
  refine fm_top (congrArg Value.int ((p1_other hne).trans ((p1_other hne).trans ((p1_other hne).trans ((p1_other hne).trans ((p1_other hne).trans ((p1_other hne).trans (p1_other hne)))))))) ?_
  refine fm_putI (k := 7) (v := M.1 q 7) hc K_Tr d_Tr_copyFrom_61 q_204 rfl h8 ho hl (by decide) (by decide) rfl rfl (by rcases hb with h | h <;> rw [h] <;> rfl) (by rcases hb with h | h <;> rw [h] <;> rfl) ?_
  refine fm_aload_n hc d_Tr_copyFrom_64 rfl rfl ?_
  refine fm_aload_n hc d_Tr_copyFrom_65 rfl rfl ?_
  refine fm_getI (k := 8) hc K_Tr d_Tr_copyFrom_66 q_208 rfl g8 go gl (by decide) (by decide) rfl ?_
  refine fm_top (congrArg Value.int ((p1_other hne).trans ((p1_other hne).trans ((p1_other hne).trans ((p1_other hne).trans ((p1_other hne).trans ((p1_other hne).trans ((p1_other hne).trans (p1_other hne))))))))) ?_
  refine fm_putI (k := 8) (v := M.1 q 8) hc K_Tr d_Tr_copyFrom_69 q_208 rfl h8 ho hl (by decide) (by decide) rfl rfl rfl rfl ?_
  refine fm_aload_n hc d_Tr_copyFrom_72 rfl rfl ?_
  refine fm_aload_n hc d_Tr_copyFrom_73 rfl rfl ?_
  refine fm_getI (k := 9) hc K_Tr d_Tr_copyFrom_74 q_212 rfl g8 go gl (by decide) (by decide) rfl ?_
  refine fm_top (congrArg Value.int ((p1_other hne).trans ((p1_other hne).trans ((p1_other hne).trans ((p1_other hne).trans ((p1_other hne).trans ((p1_other hne).trans ((p1_other hne).trans ((p1_other hne).trans (p1_other hne)))))))))) ?_
  refine fm_putI (k := 9) (v := M.1 q 9) hc K_Tr d_Tr_copyFrom_77 q_212 rfl h8 ho hl (by decide) (by decide) rfl rfl rfl rfl ?_
  refine fm_aload_n hc d_Tr_copyFrom_80 rfl rfl ?_
  refine fm_getR (k := 10) (q := q + 1) hc K_Tr d_Tr_copyFrom_81 q_216 rfl g8 go gl (by decide) (by decide) rfl go1 ?_
  refine fm_iconst (v := nI 0) hc d_Tr_copyFrom_84 rfl ?_
  refine fm_aload_n hc d_Tr_copyFrom_85 rfl rfl ?_
  refine fm_getR (k := 10) (q := o + 1) hc K_Tr d_Tr_copyFrom_86 q_216 rfl h8 ho hl (by decide) (by decide) rfl ho1 ?_
  refine fm_iconst (v := nI 0) hc d_Tr_copyFrom_89 rfl ?_
  refine fm_aload_n hc d_Tr_copyFrom_90 rfl rfl ?_
  refine fm_getI (k := 8) hc K_Tr d_Tr_copyFrom_91 q_208 rfl h8 ho hl (by decide) (by decide) rfl ?_
  refine fm_top (congrArg Value.int ((p1_at (by decide)).trans ((p1_same _ _ _ _).trans hd))) ?_
  refine fm_cpyL (o0 := q + 1) (o1 := o + 1) (l0 := 6) (l1 := 6) (sp := 0) (dp := 0) (k := dd) hc 3 q_584 q_586 q_585 q_20 d_Tr_copyFrom_94 (by omega) g1n gl1 (by omega) h1n hl1 rfl (by omega) (by omega) (by decide) (by decide) (Nat.le_of_ble_eq_true rfl) (Nat.le_of_ble_eq_true rfl) ?_
  refine fm_aload_n hc d_Tr_copyFrom_97 rfl rfl ?_
  refine fm_getR (k := 11) (q := q + 2) hc K_Tr d_Tr_copyFrom_98 q_220 rfl g8 go gl (by decide) (by decide) rfl go2 ?_
  refine fm_iconst (v := nI 0) hc d_Tr_copyFrom_101 rfl ?_
  refine fm_aload_n hc d_Tr_copyFrom_102 rfl rfl ?_
  refine fm_getR (k := 11) (q := o + 2) hc K_Tr d_Tr_copyFrom_103 q_220 rfl h8 ho hl (by decide) (by decide) rfl ho2 ?_
  refine fm_iconst (v := nI 0) hc d_Tr_copyFrom_106 rfl ?_
  refine fm_aload_n hc d_Tr_copyFrom_107 rfl rfl ?_
  refine fm_getI (k := 9) hc K_Tr d_Tr_copyFrom_108 q_212 rfl h8 ho hl (by decide) (by decide) rfl ?_
  refine fm_top (congrArg Value.int ((p1_same _ _ _ _).trans hp)) ?_
  refine fm_cpyL (o0 := q + 2) (o1 := o + 2) (l0 := 8) (l1 := 8) (sp := 0) (dp := 0) (k := pp) hc 3 q_584 q_586 q_585 q_20 d_Tr_copyFrom_111 (by omega) g2n gl2 (by omega) h2n hl2 rfl (by omega) (by omega) (by decide) (by decide) (Nat.le_of_ble_eq_true rfl) (Nat.le_of_ble_eq_true rfl) ?_
  refine fm_aload_n hc d_Tr_copyFrom_114 rfl rfl ?_
  refine fm_getR (k := 12) (q := q + 3) hc K_Tr d_Tr_copyFrom_115 q_224 rfl g8 go gl (by decide) (by decide) rfl go3 ?_
  refine fm_iconst (v := nI 0) hc d_Tr_copyFrom_118 rfl ?_
  refine fm_aload_n hc d_Tr_copyFrom_119 rfl rfl ?_
  refine fm_getR (k := 12) (q := o + 3) hc K_Tr d_Tr_copyFrom_120 q_224 rfl h8 ho hl (by decide) (by decide) rfl ho3 ?_
  refine fm_iconst (v := nI 0) hc d_Tr_copyFrom_123 rfl ?_
  refine fm_aload_n hc d_Tr_copyFrom_124 rfl rfl ?_
  refine fm_getI (k := 9) hc K_Tr d_Tr_copyFrom_125 q_212 rfl h8 ho hl (by decide) (by decide) rfl ?_
  refine fm_top (congrArg Value.int ((p1_same _ _ _ _).trans hp)) ?_
  refine fm_cpyL (o0 := q + 3) (o1 := o + 3) (l0 := 8) (l1 := 8) (sp := 0) (dp := 0) (k := pp) hc 3 q_584 q_586 q_585 q_20 d_Tr_copyFrom_128 (by omega) g3n gl3 (by omega) h3n hl3 rfl (by omega) (by omega) (by decide) (by decide) (Nat.le_of_ble_eq_true rfl) (Nat.le_of_ble_eq_true rfl) ?_
  exact fm_vret hc hr d_Tr_copyFrom_131 (Nat.le_refl _) (Nat.le_refl _) ⟨rfl, rfl, rfl⟩
theorem ap_4 {M : fm_M} (h : fm_AP M) : M.2.2 8 4 = some 60 := h (8, 4, 60) (List.mem_of_getElem? (i := 4) rfl)
theorem x_launch_go {l : Launch} {b : Nat} {x : Nat → Nat} {D : va_G} {dA : Nat → ClassId} (htr : l.stackTraces = false) {j p0 a mm : Nat} {u : Int32} {P : fm_M → Prop} {n : Nat} {M : fm_M} (hn : 586 ≤ n) (hA : fm_AP M) (hj : j < 4) (hp0 : p0 < 4) (ha : a < 4) (hf : ¬ u < nI 1 ∧ u ≤ nI 200) (hL : M.1 8 7 = nI a) (hu : ¬ M.1 (90 + 124 * j) 1 = 0) (hM : fm_isM mm) (hm : M.2.2 (90 + 124 * j) 3 = some mm) (hP : fm_MP M mm) (hF : Met l y_Fr_follow (Cond.code y_Fr_follow b_Fr_follow 6 none :: fm_T0) ({ frames := 8, cells := 0, slots := 0, locals := 370 }) (fm_Pc fm_lay fm_nf fm_fk fm_cl b x D dA (fm_tys dA) (fm_EX b x) false [.ref 69, .ref (mm + (9 + 4 * a)), .int (nI j), .ref 60, .ref 9, .ref 10] n (m_settle (m_begin (fm_put1 M 8 7 (nI (a + 1))) (mm + (9 + 4 * a)) (nI a) (nI p0) u) mm a (nI 0))) (fm_Qc fm_lay fm_nf fm_fk fm_cl b x D dA (fun r n' M' => r = none ∧ n' = n ∧ P M')) 0 0 (fm_A b)) : MetFree l y_An_launch (headSpec (Cond.code y_An_launch b_An_launch 6 (some .int) :: fm_T0) ({ frames := 10, cells := 1, slots := 6, locals := 400 })) (fm_Pc fm_lay fm_nf fm_fk fm_cl b x D dA (fm_tys dA) (fm_EX b x) false [.ref 8, .int (nI j), .int (nI p0), .int u] n M) (fun _ _ _ _ _ => True) (fx_Q fm_lay fm_nf fm_fk fm_cl b x D dA (fun r n' M' => r = some (.int (nI a)) ∧ n' = n ∧ P M') (fun _ _ _ => False) 1 6) := by
  refine fx_enter (by decide) (Nat.le_of_ble_eq_true rfl) ?_
  intro p e s m args below meth c hc hr hnm hex htg htab
  have hlo := isM_lo hM
  refine fm_iload_n hc d_An_launch_0 rfl rfl ?_
  refine fm_callS (av := [.int (nI j)]) (rest := []) (y := y_An_isHost) (bytes := b_An_isHost) hc fm_T0_good (fm_EX_st b x) hex q_397 q_1 q_395 q_396 pd_An_isHost (c_An_isHost_ok (in4_of hj)) ⟨rfl, rfl, Nat.le_of_ble_eq_true rfl, Nat.le_of_ble_eq_true rfl⟩ ⟨Nat.le_of_ble_eq_true rfl, Nat.le_of_ble_eq_true rfl⟩ d_An_launch_1 (Nat.le_of_ble_eq_true rfl) (fun r n2 M2 hp => ?_)
  obtain ⟨rfl, hq1, hq2⟩ := hp
  replace hq1 := hq1.symm
  replace hq2 := hq2.symm
  subst hq1 hq2
  refine fm_cnt (z' := (0, 0)) rfl (fm_st (st' := [.int (nI 1)]) rfl ?_)
  refine fm_if_eq (tgt := 26) hc d_An_launch_4 rfl (fun g => absurd g (by decide)) (fun _ => ?_)
  refine fm_iload_n hc d_An_launch_7 rfl rfl ?_
  refine fm_callS (av := [.int (nI p0)]) (rest := []) (y := y_An_isProgram) (bytes := b_An_isProgram) hc fm_T0_good (fm_EX_st b x) hex q_386 q_1 q_384 q_385 pd_An_isProgram (c_An_isProgram_ok (in4_of hp0)) ⟨rfl, rfl, Nat.le_of_ble_eq_true rfl, Nat.le_of_ble_eq_true rfl⟩ ⟨Nat.le_of_ble_eq_true rfl, Nat.le_of_ble_eq_true rfl⟩ d_An_launch_8 (Nat.le_of_ble_eq_true rfl) (fun r n2 M2 hp => ?_)
  obtain ⟨rfl, hq1, hq2⟩ := hp
  replace hq1 := hq1.symm
  replace hq2 := hq2.symm
  subst hq1 hq2
  refine fm_cnt (z' := (0, 0)) rfl (fm_st (st' := [.int (nI 1)]) rfl ?_)
  refine fm_if_eq (tgt := 26) hc d_An_launch_11 rfl (fun g => absurd g (by decide)) (fun _ => ?_)
  refine fm_iload_n hc d_An_launch_14 rfl rfl ?_
  refine fm_iconst (v := nI 1) hc d_An_launch_15 rfl ?_
  refine fm_icmp_lt (tgt := 26) hc d_An_launch_16 rfl (fun g => absurd g hf.1) (fun _ => ?_)
  refine fm_iload_n hc d_An_launch_19 rfl rfl ?_
  refine fm_sipush (v := nI 200) hc d_An_launch_20 rfl ?_
  refine fm_icmp_le (tgt := 34) hc d_An_launch_23 rfl (fun _ => ?_) (fun g => absurd hf.2 g)
  refine fm_aload_n hc d_An_launch_34 rfl rfl ?_
  refine fm_getR (k := 2) (q := 15) hc K_An d_An_launch_35 q_357 rfl (by decide) (by omega) (by decide) (by decide) (by decide) rfl (ap_2 hA) ?_
  refine fm_iload_n hc d_An_launch_38 rfl rfl ?_
  refine fm_aald (q := 90 + 124 * j) (j := j) (len := 4) hc 5 d_An_launch_39 (by decide) (by omega) (by decide) (by decide) rfl (by omega) (by decide) (ap_site hA hj) ?_
  refine fm_getI (k := 1) hc K_Si d_An_launch_40 q_334 rfl (by omega) (by omega) (ly_Si hj) (by decide) (by decide) rfl ?_
  refine fm_if_eq (tgt := 54) hc d_An_launch_43 rfl (fun g => absurd g hu) (fun _ => ?_)
  refine fm_aload_n hc d_An_launch_46 rfl rfl ?_
  refine fm_getI (k := 7) hc K_An d_An_launch_47 q_362 rfl (by decide) (by omega) (by decide) (by decide) (by decide) rfl ?_
  refine fm_top (congrArg Value.int hL) ?_
  refine fm_iconst (v := nI 4) hc d_An_launch_50 rfl ?_
  refine fm_icmp_lt (tgt := 62) hc d_An_launch_51 rfl (fun _ => ?_) (fun g => absurd (nI_lt (by omega) (by omega)) g)
  refine fm_aload_n hc d_An_launch_62 rfl rfl ?_
  refine fm_getI (k := 7) hc K_An d_An_launch_63 q_362 rfl (by decide) (by omega) (by decide) (by decide) (by decide) rfl ?_
  refine fm_top (congrArg Value.int hL) ?_
  refine fm_istore (lv' := [(4, .int (nI a)), (0, .ref 8), (1, .int (nI j)), (2, .int (nI p0)), (3, .int u)]) hc d_An_launch_66 (by decide) rfl ?_
  refine fm_aload_n hc d_An_launch_68 rfl rfl ?_
  refine fm_dup hc d_An_launch_69 rfl ?_
  refine fm_getI (k := 7) hc K_An d_An_launch_70 q_362 rfl (by decide) (by omega) (by decide) (by decide) (by decide) rfl ?_
  refine fm_top (congrArg Value.int hL) ?_
  refine fm_iconst (v := nI 1) hc d_An_launch_73 rfl ?_
  refine fm_iadd hc d_An_launch_74 ?_
  refine fm_top (congrArg Value.int (nI_add a 1)) ?_
  refine fm_putI (k := 7) (v := nI (a + 1)) hc K_An d_An_launch_75 q_362 rfl (by decide) (by omega) (by decide) (by decide) (by decide) rfl rfl rfl rfl ?_
  refine fm_aload_n hc d_An_launch_78 rfl rfl ?_
  refine fm_getR (k := 2) (q := 15) hc K_An d_An_launch_79 q_357 rfl (by decide) (by omega) (by decide) (by decide) (by decide) rfl (ap_2 hA) ?_
  refine fm_iload_n hc d_An_launch_82 rfl rfl ?_
  refine fm_aald (q := 90 + 124 * j) (j := j) (len := 4) hc 5 d_An_launch_83 (by decide) (by omega) (by decide) (by decide) rfl (by omega) (by decide) (ap_site hA hj) ?_
  refine fm_getR (k := 3) (q := mm) hc K_Si d_An_launch_84 q_338 rfl (by omega) (by omega) (ly_Si hj) (by decide) (by decide) rfl hm ?_
  refine fm_astore (lv' := [(5, .ref mm), (4, .int (nI a)), (0, .ref 8), (1, .int (nI j)), (2, .int (nI p0)), (3, .int u)]) hc d_An_launch_87 (by decide) rfl ?_
  refine fm_aload hc d_An_launch_89 rfl ?_
  refine fm_getR (k := 4) (q := mm + 5) hc K_Me d_An_launch_91 q_315 rfl (by omega) (by omega) (ly_M0 hM) (by decide) (by decide) rfl hP.2.2.2.2.1 ?_
  refine fm_iload hc d_An_launch_94 rfl ?_
  refine fm_aald (q := mm + (9 + 4 * a)) (j := a) (len := 8) hc 7 d_An_launch_96 (by omega) (by omega) (ly_M hM (k := 5) (by omega)) (by decide) rfl (by omega) (by decide) (hP.2.2.2.2.2.2.2.2 a (show a < 8 by omega)).1 ?_
  refine fm_iload hc d_An_launch_97 rfl ?_
  refine fm_iload_n hc d_An_launch_99 rfl rfl ?_
  refine fm_iload_n hc d_An_launch_100 rfl rfl ?_
  refine fm_callV (av := [.int (nI a), .int (nI p0), .int u]) (rest := []) (ob := mm + (9 + 4 * a)) (ci := 5) (r0 := ("AgentNet$Traveller", F_Tr, 13)) (y := y_Tr_begin) (bytes := b_Tr_begin) hc fm_T0_good (fm_EX_st b x) hex q_570 q_8 q_567 q_568 q_569 pd_Tr_begin (by omega) (by omega) (ly_Mt hM (show a < 8 by omega)) (by decide) rfl rfl (c_begin (by omega) (by omega) (ly_Mt hM (by omega))) ⟨rfl, rfl, Nat.le_of_ble_eq_true rfl, Nat.le_of_ble_eq_true rfl⟩ ⟨Nat.le_of_ble_eq_true rfl, Nat.le_of_ble_eq_true rfl⟩ d_An_launch_101 (Nat.le_of_ble_eq_true rfl) (fun r n2 M2 hp => ?_)
  obtain ⟨rfl, hq1, hq2⟩ := hp
  replace hq1 := hq1.symm
  replace hq2 := hq2.symm
  subst hq1 hq2
  refine fm_cnt (z' := (0, 0)) rfl (fm_st (st' := []) rfl ?_)
  refine fm_aload hc d_An_launch_104 rfl ?_
  refine fm_iload hc d_An_launch_106 rfl ?_
  refine fm_iconst (v := nI 0) hc d_An_launch_108 rfl ?_
  refine fm_callV (av := [.int (nI a), .int (nI 0)]) (rest := []) (ob := mm) (ci := 6) (r0 := ("AgentNet$Memory", F_Me, 6)) (y := y_Me_settle) (bytes := b_Me_settle) hc fm_T0_good (fm_EX_st b x) hex q_574 q_11 q_571 q_572 q_573 pd_Me_settle (by omega) (by omega) (ly_M0 hM) (by decide) rfl rfl (c_settle hn hM hP (by omega)) ⟨rfl, rfl, Nat.le_of_ble_eq_true rfl, Nat.le_of_ble_eq_true rfl⟩ ⟨Nat.le_of_ble_eq_true rfl, Nat.le_of_ble_eq_true rfl⟩ d_An_launch_109 (Nat.le_of_ble_eq_true rfl) (fun r n2 M2 hp => ?_)
  obtain ⟨rfl, hq1, hq2⟩ := hp
  replace hq1 := hq1.symm
  replace hq2 := hq2.symm
  subst hq1 hq2
  refine fm_cnt (z' := (0, 0)) rfl (fm_st (st' := []) rfl ?_)
  refine fm_aload_n hc d_An_launch_112 rfl rfl ?_
  refine fm_getR (k := 6) (q := 69) hc K_An d_An_launch_113 q_361 rfl (by decide) (by omega) (by decide) (by decide) (by decide) rfl (ap_6 hA) ?_
  refine fm_aload hc d_An_launch_116 rfl ?_
  refine fm_getR (k := 4) (q := mm + 5) hc K_Me d_An_launch_118 q_315 rfl (by omega) (by omega) (ly_M0 hM) (by decide) (by decide) rfl hP.2.2.2.2.1 ?_
  refine fm_iload hc d_An_launch_121 rfl ?_
  refine fm_aald (q := mm + (9 + 4 * a)) (j := a) (len := 8) hc 7 d_An_launch_123 (by omega) (by omega) (ly_M hM (k := 5) (by omega)) (by decide) rfl (by omega) (by decide) (hP.2.2.2.2.2.2.2.2 a (show a < 8 by omega)).1 ?_
  refine fm_iload_n hc d_An_launch_124 rfl rfl ?_
  refine fm_aload_n hc d_An_launch_125 rfl rfl ?_
  refine fm_getR (k := 4) (q := 60) hc K_An d_An_launch_126 q_359 rfl (by decide) (by omega) (by decide) (by decide) (by decide) rfl (ap_4 hA) ?_
  refine fm_aload_n hc d_An_launch_129 rfl rfl ?_
  refine fm_getR (k := 0) (q := 9) hc K_An d_An_launch_130 q_355 rfl (by decide) (by omega) (by decide) (by decide) (by decide) rfl (ap_0 hA) ?_
  refine fm_aload_n hc d_An_launch_133 rfl rfl ?_
  refine fm_getR (k := 1) (q := 10) hc K_An d_An_launch_134 q_356 rfl (by decide) (by omega) (by decide) (by decide) (by decide) rfl (ap_1 hA) ?_
  refine fm_callV (av := [.ref (mm + (9 + 4 * a)), .int (nI j), .ref 60, .ref 9, .ref 10]) (rest := []) (ob := 69) (ci := 7) (r0 := ("AgentNet$FreeRun", F_Fr, 5)) (y := y_Fr_follow) (bytes := b_Fr_follow) hc fm_T0_good (fm_EX_st b x) hex q_579 q_7 q_576 q_577 q_578 pd_Fr_follow (by decide) (by omega) (by decide) (by decide) rfl rfl (hF) ⟨rfl, rfl, Nat.le_of_ble_eq_true rfl, Nat.le_of_ble_eq_true rfl⟩ ⟨Nat.le_of_ble_eq_true rfl, Nat.le_of_ble_eq_true rfl⟩ d_An_launch_137 (Nat.le_of_ble_eq_true rfl) (fun r n2 M2 hp => ?_)
  obtain ⟨rfl, hq1, hpp⟩ := hp
  replace hq1 := hq1.symm
  subst hq1
  refine fm_cnt (z' := (0, 0)) rfl (fm_st (st' := []) rfl ?_)
  refine fm_iload hc d_An_launch_140 rfl ?_
  exact fx_ret (fm_iret hc hr d_An_launch_142 (Nat.le_of_ble_eq_true rfl) (Nat.le_of_ble_eq_true rfl) ⟨rfl, rfl, hpp⟩)
def m_fresh (M : fm_M) (g a : Nat) : fm_M := fm_put1 (fm_put1 (fm_put1 (fm_put1 (fm_put1 (fm_put1 (fm_put1 (fm_put1 (fm_put1 M 605 g (M.1 591 a)) 607 g ((fm_put1 M 605 g (M.1 591 a)).1 592 a)) 606 g (nI 0)) 608 g (nI 0)) 609 g (nI 0)) 610 g (nI 0)) 611 g (vp_nar .boolean (nI 0))) 612 g (nI 0)) 614 g (nI 0)
theorem c_fresh {l : Launch} {b : Nat} {x : Nat → Nat} {D : va_G} {dA : Nat → ClassId} {g a : Nat} {n : Nat} {M : fm_M} (hn : 629 ≤ n) (hR : fm_RP M) (hr1 : g < 98) (ha : a < 4) : Met l y_Mo_fresh (Cond.code y_Mo_fresh b_Mo_fresh 3 none :: fm_T0) ({ frames := 0, cells := 0, slots := 0, locals := 0 }) (fm_Pc fm_lay fm_nf fm_fk fm_cl b x D dA (fm_tys dA) (fm_EX b x) false [.ref 586, .int (nI g), .int (nI a)] n M) (fm_Qc fm_lay fm_nf fm_fk fm_cl b x D dA (fun r n' M' => r = none ∧ n' = n ∧ M' = m_fresh M g a)) 0 0 (fm_A b) := by
  refine fm_enter (by decide) (Nat.le_of_ble_eq_true rfl) ?_
  intro p e s m args below meth c hc hr hnm hex htg
  refine fm_aload_n hc d_Mo_fresh_0 rfl rfl ?_
  refine fm_getR (k := 20) (q := 605) hc K_Mo d_Mo_fresh_1 q_905 rfl (by decide) (by omega) (by decide) (by decide) (by decide) rfl (rp_program hR) ?_
  refine fm_iload_n hc d_Mo_fresh_4 rfl rfl ?_
  refine fm_aload_n hc d_Mo_fresh_5 rfl rfl ?_
  refine fm_getR (k := 6) (q := 591) hc K_Mo d_Mo_fresh_6 q_891 rfl (by decide) (by omega) (by decide) (by decide) (by decide) rfl (rp_rule hR) ?_
  refine fm_iload_n hc d_Mo_fresh_9 rfl rfl ?_
  refine fm_iald (j := a) (len := 4) hc 0 d_Mo_fresh_10 (by decide) (by omega) (by decide) rfl (by omega) (by decide) ?_
  refine fm_iast (j := g) (len := 98) (v := M.1 591 a) hc 0 d_Mo_fresh_11 (by decide) (by omega) (by decide) rfl (by omega) (by decide) ?_
  refine fm_aload_n hc d_Mo_fresh_12 rfl rfl ?_
  refine fm_getR (k := 22) (q := 607) hc K_Mo d_Mo_fresh_13 q_907 rfl (by decide) (by omega) (by decide) (by decide) (by decide) rfl (rp_fuel hR) ?_
  refine fm_iload_n hc d_Mo_fresh_16 rfl rfl ?_
  refine fm_aload_n hc d_Mo_fresh_17 rfl rfl ?_
  refine fm_getR (k := 7) (q := 592) hc K_Mo d_Mo_fresh_18 q_892 rfl (by decide) (by omega) (by decide) (by decide) (by decide) rfl (rp_purse hR) ?_
  refine fm_iload_n hc d_Mo_fresh_21 rfl rfl ?_
  refine fm_iald (j := a) (len := 4) hc 0 d_Mo_fresh_22 (by decide) (by omega) (by decide) rfl (by omega) (by decide) ?_
  refine fm_iast (j := g) (len := 98) (v := (fm_put1 M 605 g (M.1 591 a)).1 592 a) hc 0 d_Mo_fresh_23 (by decide) (by omega) (by decide) rfl (by omega) (by decide) ?_
  refine fm_aload_n hc d_Mo_fresh_24 rfl rfl ?_
  refine fm_getR (k := 21) (q := 606) hc K_Mo d_Mo_fresh_25 q_906 rfl (by decide) (by omega) (by decide) (by decide) (by decide) rfl (rp_place hR) ?_
  refine fm_iload_n hc d_Mo_fresh_28 rfl rfl ?_
  refine fm_iconst (v := nI 0) hc d_Mo_fresh_29 rfl ?_
  refine fm_iast (j := g) (len := 98) (v := nI 0) hc 0 d_Mo_fresh_30 (by decide) (by omega) (by decide) rfl (by omega) (by decide) ?_
  refine fm_aload_n hc d_Mo_fresh_31 rfl rfl ?_
  refine fm_getR (k := 23) (q := 608) hc K_Mo d_Mo_fresh_32 q_908 rfl (by decide) (by omega) (by decide) (by decide) (by decide) rfl (rp_hops hR) ?_
  refine fm_iload_n hc d_Mo_fresh_35 rfl rfl ?_
  refine fm_iconst (v := nI 0) hc d_Mo_fresh_36 rfl ?_
  refine fm_iast (j := g) (len := 98) (v := nI 0) hc 0 d_Mo_fresh_37 (by decide) (by omega) (by decide) rfl (by omega) (by decide) ?_
  refine fm_aload_n hc d_Mo_fresh_38 rfl rfl ?_
  refine fm_getR (k := 24) (q := 609) hc K_Mo d_Mo_fresh_39 q_909 rfl (by decide) (by omega) (by decide) (by decide) (by decide) rfl (rp_said hR) ?_
  refine fm_iload_n hc d_Mo_fresh_42 rfl rfl ?_
  refine fm_iconst (v := nI 0) hc d_Mo_fresh_43 rfl ?_
  refine fm_iast (j := g) (len := 98) (v := nI 0) hc 0 d_Mo_fresh_44 (by decide) (by omega) (by decide) rfl (by omega) (by decide) ?_
  refine fm_aload_n hc d_Mo_fresh_45 rfl rfl ?_
  refine fm_getR (k := 25) (q := 610) hc K_Mo d_Mo_fresh_46 q_910 rfl (by decide) (by omega) (by decide) (by decide) (by decide) rfl (rp_wait hR) ?_
  refine fm_iload_n hc d_Mo_fresh_49 rfl rfl ?_
  refine fm_iconst (v := nI 0) hc d_Mo_fresh_50 rfl ?_
  refine fm_iast (j := g) (len := 98) (v := nI 0) hc 0 d_Mo_fresh_51 (by decide) (by omega) (by decide) rfl (by omega) (by decide) ?_
  refine fm_aload_n hc d_Mo_fresh_52 rfl rfl ?_
  refine fm_getR (k := 26) (q := 611) hc K_Mo d_Mo_fresh_53 q_911 rfl (by decide) (by omega) (by decide) (by decide) (by decide) rfl (rp_cloned hR) ?_
  refine fm_iload_n hc d_Mo_fresh_56 rfl rfl ?_
  refine fm_iconst (v := nI 0) hc d_Mo_fresh_57 rfl ?_
  refine fm_zast (j := g) (len := 98) (v := nI 0) hc 1 d_Mo_fresh_58 (by decide) (by omega) (by decide) rfl (by omega) (by decide) ?_
  refine fm_aload_n hc d_Mo_fresh_59 rfl rfl ?_
  refine fm_getR (k := 27) (q := 612) hc K_Mo d_Mo_fresh_60 q_912 rfl (by decide) (by omega) (by decide) (by decide) (by decide) rfl (rp_size hR) ?_
  refine fm_iload_n hc d_Mo_fresh_63 rfl rfl ?_
  refine fm_iconst (v := nI 0) hc d_Mo_fresh_64 rfl ?_
  refine fm_iast (j := g) (len := 98) (v := nI 0) hc 0 d_Mo_fresh_65 (by decide) (by omega) (by decide) rfl (by omega) (by decide) ?_
  refine fm_aload_n hc d_Mo_fresh_66 rfl rfl ?_
  refine fm_getR (k := 29) (q := 614) hc K_Mo d_Mo_fresh_67 q_914 rfl (by decide) (by omega) (by decide) (by decide) (by decide) rfl (rp_pairs hR) ?_
  refine fm_iload_n hc d_Mo_fresh_70 rfl rfl ?_
  refine fm_iconst (v := nI 0) hc d_Mo_fresh_71 rfl ?_
  refine fm_iast (j := g) (len := 98) (v := nI 0) hc 0 d_Mo_fresh_72 (by decide) (by omega) (by decide) rfl (by omega) (by decide) ?_
  exact fm_vret hc hr d_Mo_fresh_73 (Nat.le_refl _) (Nat.le_refl _) ⟨rfl, rfl, rfl⟩
def m_arrive (M : fm_M) (g : Nat) (v w : Int32) : fm_M := fm_put1 (fm_put1 (fm_put1 M 597 g (nI 1)) 599 g v) 600 g w
theorem c_arriveAt {l : Launch} {b : Nat} {x : Nat → Nat} {D : va_G} {dA : Nat → ClassId} {g : Nat} {v w : Int32} {n : Nat} {M : fm_M} (hn : 629 ≤ n) (hR : fm_RP M) (hr1 : g < 96) : Met l y_Mo_arriveAt (Cond.code y_Mo_arriveAt b_Mo_arriveAt 4 none :: fm_T0) ({ frames := 0, cells := 0, slots := 0, locals := 0 }) (fm_Pc fm_lay fm_nf fm_fk fm_cl b x D dA (fm_tys dA) (fm_EX b x) false [.ref 586, .int (nI g), .int v, .int w] n M) (fm_Qc fm_lay fm_nf fm_fk fm_cl b x D dA (fun r n' M' => r = none ∧ n' = n ∧ M' = m_arrive M g v w)) 0 0 (fm_A b) := by
  refine fm_enter (by decide) (Nat.le_of_ble_eq_true rfl) ?_
  intro p e s m args below meth c hc hr hnm hex htg
  refine fm_aload_n hc d_Mo_arriveAt_0 rfl rfl ?_
  refine fm_getR (k := 12) (q := 597) hc K_Mo d_Mo_arriveAt_1 q_897 rfl (by decide) (by omega) (by decide) (by decide) (by decide) rfl (rp_slot hR) ?_
  refine fm_iload_n hc d_Mo_arriveAt_4 rfl rfl ?_
  refine fm_iconst (v := nI 1) hc d_Mo_arriveAt_5 rfl ?_
  refine fm_iast (j := g) (len := 96) (v := nI 1) hc 0 d_Mo_arriveAt_6 (by decide) (by omega) (by decide) rfl (by omega) (by decide) ?_
  refine fm_aload_n hc d_Mo_arriveAt_7 rfl rfl ?_
  refine fm_getR (k := 14) (q := 599) hc K_Mo d_Mo_arriveAt_8 q_899 rfl (by decide) (by omega) (by decide) (by decide) (by decide) rfl (rp_known hR) ?_
  refine fm_iload_n hc d_Mo_arriveAt_11 rfl rfl ?_
  refine fm_iload_n hc d_Mo_arriveAt_12 rfl rfl ?_
  refine fm_iast (j := g) (len := 96) (v := v) hc 0 d_Mo_arriveAt_13 (by decide) (by omega) (by decide) rfl (by omega) (by decide) ?_
  refine fm_aload_n hc d_Mo_arriveAt_14 rfl rfl ?_
  refine fm_getR (k := 15) (q := 600) hc K_Mo d_Mo_arriveAt_15 q_900 rfl (by decide) (by omega) (by decide) (by decide) (by decide) rfl (rp_owed hR) ?_
  refine fm_iload_n hc d_Mo_arriveAt_18 rfl rfl ?_
  refine fm_iload_n hc d_Mo_arriveAt_19 rfl rfl ?_
  refine fm_iast (j := g) (len := 96) (v := w) hc 0 d_Mo_arriveAt_20 (by decide) (by omega) (by decide) rfl (by omega) (by decide) ?_
  exact fm_vret hc hr d_Mo_arriveAt_21 (Nat.le_refl _) (Nat.le_refl _) ⟨rfl, rfl, rfl⟩
theorem r_launch_go {l : Launch} {b : Nat} {x : Nat → Nat} {D : va_G} {dA : Nat → ClassId} {j p0 a : Nat} {u : Int32} {n : Nat} {M : fm_M} (hn : 629 ≤ n) (hR : fm_RP M) (hj : j < 4) (hp0 : p0 < 4) (ha : a < 4) (hf : fm_wi u (nI 1) (nI 200)) (hL : M.1 586 4 = nI a) (hu : ¬ M.1 595 j = 0) : Met l y_Mo_launch (Cond.code y_Mo_launch b_Mo_launch 4 (some .int) :: fm_T0) ({ frames := 1, cells := 0, slots := 0, locals := 30 }) (fm_Pc fm_lay fm_nf fm_fk fm_cl b x D dA (fm_tys dA) (fm_EX b x) false [.ref 586, .int (nI j), .int (nI p0), .int u] n M) (fm_Qc fm_lay fm_nf fm_fk fm_cl b x D dA (fun r n' M' => r = some (.int (nI a)) ∧ n' = n ∧ M' = fm_put1 (m_arrive (m_fresh (fm_put1 (fm_put1 (fm_put1 (fm_put1 M 586 0 (nI 0)) 590 a (nI j)) 591 a (nI p0)) 592 a u) (24 * j + a) a) (24 * j + a) (nI 0) (-1)) 586 4 (nI (a + 1)))) 0 0 (fm_A b) := by
  refine fm_enter (by decide) (Nat.le_of_ble_eq_true rfl) ?_
  intro p e s m args below meth c hc hr hnm hex htg
  refine fm_aload_n hc d_Mo_launch_0 rfl rfl ?_
  refine fm_iconst (v := nI 0) hc d_Mo_launch_1 rfl ?_
  refine fm_putI (k := 0) (v := nI 0) hc K_Mo d_Mo_launch_2 q_885 rfl (by decide) (by omega) (by decide) (by decide) (by decide) rfl rfl rfl rfl ?_
  refine fm_iload_n hc d_Mo_launch_5 rfl rfl ?_
  refine fm_iconst (v := nI 0) hc d_Mo_launch_6 rfl ?_
  refine fm_iconst (v := nI 3) hc d_Mo_launch_7 rfl ?_
  refine fm_callS (av := [.int (nI j), .int (nI 0), .int (nI 3)]) (rest := []) (y := y_Mo_within) (bytes := b_Mo_within) hc fm_T0_good (fm_EX_st b x) hex q_1049 q_13 q_1047 q_1048 pd_Mo_within (c_Mo_within_ok (wi_of4 (in4_of hj))) ⟨rfl, rfl, Nat.le_of_ble_eq_true rfl, Nat.le_of_ble_eq_true rfl⟩ ⟨Nat.le_of_ble_eq_true rfl, Nat.le_of_ble_eq_true rfl⟩ d_Mo_launch_8 (Nat.le_of_ble_eq_true rfl) (fun r n2 M2 hp => ?_)
  obtain ⟨rfl, hq1, hq2⟩ := hp
  replace hq1 := hq1.symm
  replace hq2 := hq2.symm
  subst hq1 hq2
  refine fm_cnt (z' := (0, 0)) rfl (fm_st (st' := [.int (nI 1)]) rfl ?_)
  refine fm_if_eq (tgt := 34) hc d_Mo_launch_11 rfl (fun g => absurd g (by decide)) (fun _ => ?_)
  refine fm_iload_n hc d_Mo_launch_14 rfl rfl ?_
  refine fm_iconst (v := nI 0) hc d_Mo_launch_15 rfl ?_
  refine fm_iconst (v := nI 3) hc d_Mo_launch_16 rfl ?_
  refine fm_callS (av := [.int (nI p0), .int (nI 0), .int (nI 3)]) (rest := []) (y := y_Mo_within) (bytes := b_Mo_within) hc fm_T0_good (fm_EX_st b x) hex q_1049 q_13 q_1047 q_1048 pd_Mo_within (c_Mo_within_ok (wi_of4 (in4_of hp0))) ⟨rfl, rfl, Nat.le_of_ble_eq_true rfl, Nat.le_of_ble_eq_true rfl⟩ ⟨Nat.le_of_ble_eq_true rfl, Nat.le_of_ble_eq_true rfl⟩ d_Mo_launch_17 (Nat.le_of_ble_eq_true rfl) (fun r n2 M2 hp => ?_)
  obtain ⟨rfl, hq1, hq2⟩ := hp
  replace hq1 := hq1.symm
  replace hq2 := hq2.symm
  subst hq1 hq2
  refine fm_cnt (z' := (0, 0)) rfl (fm_st (st' := [.int (nI 1)]) rfl ?_)
  refine fm_if_eq (tgt := 34) hc d_Mo_launch_20 rfl (fun g => absurd g (by decide)) (fun _ => ?_)
  refine fm_iload_n hc d_Mo_launch_23 rfl rfl ?_
  refine fm_iconst (v := nI 1) hc d_Mo_launch_24 rfl ?_
  refine fm_sipush (v := nI 200) hc d_Mo_launch_25 rfl ?_
  refine fm_callS (av := [.int u, .int (nI 1), .int (nI 200)]) (rest := []) (y := y_Mo_within) (bytes := b_Mo_within) hc fm_T0_good (fm_EX_st b x) hex q_1049 q_13 q_1047 q_1048 pd_Mo_within (c_Mo_within_ok hf) ⟨rfl, rfl, Nat.le_of_ble_eq_true rfl, Nat.le_of_ble_eq_true rfl⟩ ⟨Nat.le_of_ble_eq_true rfl, Nat.le_of_ble_eq_true rfl⟩ d_Mo_launch_28 (Nat.le_of_ble_eq_true rfl) (fun r n2 M2 hp => ?_)
  obtain ⟨rfl, hq1, hq2⟩ := hp
  replace hq1 := hq1.symm
  replace hq2 := hq2.symm
  subst hq1 hq2
  refine fm_cnt (z' := (0, 0)) rfl (fm_st (st' := [.int (nI 1)]) rfl ?_)
  refine fm_if_ne (tgt := 40) hc d_Mo_launch_31 rfl (fun _ => ?_) (fun g => absurd g (by decide))
  refine fm_aload_n hc d_Mo_launch_40 rfl rfl ?_
  refine fm_getR (k := 10) (q := 595) hc K_Mo d_Mo_launch_41 q_895 rfl (by decide) (by omega) (by decide) (by decide) (by decide) rfl (rp_up hR) ?_
  refine fm_iload_n hc d_Mo_launch_44 rfl rfl ?_
  refine fm_zald (j := j) (len := 4) hc 1 d_Mo_launch_45 (by decide) (by omega) (by decide) rfl (by omega) (by decide) ?_
  refine fm_if_eq (tgt := 57) hc d_Mo_launch_46 rfl (fun g => absurd g hu) (fun _ => ?_)
  refine fm_aload_n hc d_Mo_launch_49 rfl rfl ?_
  refine fm_getI (k := 4) hc K_Mo d_Mo_launch_50 q_889 rfl (by decide) (by omega) (by decide) (by decide) (by decide) rfl ?_
  refine fm_top (congrArg Value.int (show _ = nI a from hL)) ?_
  refine fm_iconst (v := nI 4) hc d_Mo_launch_53 rfl ?_
  refine fm_icmp_ne (tgt := 63) hc d_Mo_launch_54 rfl (fun _ => ?_) (fun g => absurd g (hnno (by omega) (by omega) (by omega)))
  refine fm_aload_n hc d_Mo_launch_63 rfl rfl ?_
  refine fm_getR (k := 5) (q := 590) hc K_Mo d_Mo_launch_64 q_890 rfl (by decide) (by omega) (by decide) (by decide) (by decide) rfl (rp_home hR) ?_
  refine fm_aload_n hc d_Mo_launch_67 rfl rfl ?_
  refine fm_getI (k := 4) hc K_Mo d_Mo_launch_68 q_889 rfl (by decide) (by omega) (by decide) (by decide) (by decide) rfl ?_
  refine fm_top (congrArg Value.int (show _ = nI a from hL)) ?_
  refine fm_iload_n hc d_Mo_launch_71 rfl rfl ?_
  refine fm_iast (j := a) (len := 4) (v := nI j) hc 0 d_Mo_launch_72 (by decide) (by omega) (by decide) rfl (by omega) (by decide) ?_
  refine fm_aload_n hc d_Mo_launch_73 rfl rfl ?_
  refine fm_getR (k := 6) (q := 591) hc K_Mo d_Mo_launch_74 q_891 rfl (by decide) (by omega) (by decide) (by decide) (by decide) rfl (rp_rule hR) ?_
  refine fm_aload_n hc d_Mo_launch_77 rfl rfl ?_
  refine fm_getI (k := 4) hc K_Mo d_Mo_launch_78 q_889 rfl (by decide) (by omega) (by decide) (by decide) (by decide) rfl ?_
  refine fm_top (congrArg Value.int (show _ = nI a from hL)) ?_
  refine fm_iload_n hc d_Mo_launch_81 rfl rfl ?_
  refine fm_iast (j := a) (len := 4) (v := nI p0) hc 0 d_Mo_launch_82 (by decide) (by omega) (by decide) rfl (by omega) (by decide) ?_
  refine fm_aload_n hc d_Mo_launch_83 rfl rfl ?_
  refine fm_getR (k := 7) (q := 592) hc K_Mo d_Mo_launch_84 q_892 rfl (by decide) (by omega) (by decide) (by decide) (by decide) rfl (rp_purse hR) ?_
  refine fm_aload_n hc d_Mo_launch_87 rfl rfl ?_
  refine fm_getI (k := 4) hc K_Mo d_Mo_launch_88 q_889 rfl (by decide) (by omega) (by decide) (by decide) (by decide) rfl ?_
  refine fm_top (congrArg Value.int (show _ = nI a from hL)) ?_
  refine fm_iload_n hc d_Mo_launch_91 rfl rfl ?_
  refine fm_iast (j := a) (len := 4) (v := u) hc 0 d_Mo_launch_92 (by decide) (by omega) (by decide) rfl (by omega) (by decide) ?_
  refine fm_aload_n hc d_Mo_launch_93 rfl rfl ?_
  refine fm_bipush (v := nI 24) hc d_Mo_launch_94 rfl ?_
  refine fm_iload_n hc d_Mo_launch_96 rfl rfl ?_
  refine fm_imul hc d_Mo_launch_97 ?_
  refine fm_top (congrArg Value.int (pk_mul 24 j)) ?_
  refine fm_aload_n hc d_Mo_launch_98 rfl rfl ?_
  refine fm_getI (k := 4) hc K_Mo d_Mo_launch_99 q_889 rfl (by decide) (by omega) (by decide) (by decide) (by decide) rfl ?_
  refine fm_top (congrArg Value.int (show _ = nI a from hL)) ?_
  refine fm_iadd hc d_Mo_launch_102 ?_
  refine fm_top (congrArg Value.int (nI_add (24 * j) a)) ?_
  refine fm_aload_n hc d_Mo_launch_103 rfl rfl ?_
  refine fm_getI (k := 4) hc K_Mo d_Mo_launch_104 q_889 rfl (by decide) (by omega) (by decide) (by decide) (by decide) rfl ?_
  refine fm_top (congrArg Value.int (show _ = nI a from hL)) ?_
  refine fm_callV (av := [.int (nI ((24 * j) + a)), .int (nI a)]) (rest := []) (ob := 586) (ci := 11) (r0 := ("AgentNetModel", F_Mo, 51)) (y := y_Mo_fresh) (bytes := b_Mo_fresh) hc fm_T0_good (fm_EX_st b x) hex q_1066 q_13 q_1063 q_1065 qs_Mo_fresh pd_Mo_fresh (by decide) (by omega) (by decide) (by decide) rfl rfl (c_fresh hn hR (by omega) ha) ⟨rfl, rfl, Nat.le_of_ble_eq_true rfl, Nat.le_of_ble_eq_true rfl⟩ ⟨Nat.le_of_ble_eq_true rfl, Nat.le_of_ble_eq_true rfl⟩ d_Mo_launch_107 (Nat.le_of_ble_eq_true rfl) (fun r n2 M2 hp => ?_)
  obtain ⟨rfl, hq1, hq2⟩ := hp
  replace hq1 := hq1.symm
  replace hq2 := hq2.symm
  subst hq1 hq2
  refine fm_cnt (z' := (0, 0)) rfl (fm_st (st' := []) rfl ?_)
  refine fm_aload_n hc d_Mo_launch_110 rfl rfl ?_
  refine fm_bipush (v := nI 24) hc d_Mo_launch_111 rfl ?_
  refine fm_iload_n hc d_Mo_launch_113 rfl rfl ?_
  refine fm_imul hc d_Mo_launch_114 ?_
  refine fm_top (congrArg Value.int (pk_mul 24 j)) ?_
  refine fm_aload_n hc d_Mo_launch_115 rfl rfl ?_
  refine fm_getI (k := 4) hc K_Mo d_Mo_launch_116 q_889 rfl (by decide) (by omega) (by decide) (by decide) (by decide) rfl ?_
  refine fm_top (congrArg Value.int (show _ = nI a from hL)) ?_
  refine fm_iadd hc d_Mo_launch_119 ?_
  refine fm_top (congrArg Value.int (nI_add (24 * j) a)) ?_
  refine fm_iconst (v := nI 0) hc d_Mo_launch_120 rfl ?_
  refine fm_iconst (v := (-1)) hc d_Mo_launch_121 rfl ?_
  refine fm_callV (av := [.int (nI ((24 * j) + a)), .int (nI 0), .int ((-1))]) (rest := []) (ob := 586) (ci := 11) (r0 := ("AgentNetModel", F_Mo, 51)) (y := y_Mo_arriveAt) (bytes := b_Mo_arriveAt) hc fm_T0_good (fm_EX_st b x) hex q_1070 q_13 q_1067 q_1069 qs_Mo_arriveAt pd_Mo_arriveAt (by decide) (by omega) (by decide) (by decide) rfl rfl (c_arriveAt hn hR (by omega)) ⟨rfl, rfl, Nat.le_of_ble_eq_true rfl, Nat.le_of_ble_eq_true rfl⟩ ⟨Nat.le_of_ble_eq_true rfl, Nat.le_of_ble_eq_true rfl⟩ d_Mo_launch_122 (Nat.le_of_ble_eq_true rfl) (fun r n2 M2 hp => ?_)
  obtain ⟨rfl, hq1, hq2⟩ := hp
  replace hq1 := hq1.symm
  replace hq2 := hq2.symm
  subst hq1 hq2
  refine fm_cnt (z' := (0, 0)) rfl (fm_st (st' := []) rfl ?_)
  refine fm_aload_n hc d_Mo_launch_125 rfl rfl ?_
  refine fm_dup hc d_Mo_launch_126 rfl ?_
  refine fm_getI (k := 4) hc K_Mo d_Mo_launch_127 q_889 rfl (by decide) (by omega) (by decide) (by decide) (by decide) rfl ?_
  refine fm_top (congrArg Value.int (show _ = nI a from hL)) ?_
  refine fm_iconst (v := nI 1) hc d_Mo_launch_130 rfl ?_
  refine fm_iadd hc d_Mo_launch_131 ?_
  refine fm_top (congrArg Value.int (nI_add a 1)) ?_
  refine fm_putI (k := 4) (v := nI (a + 1)) hc K_Mo d_Mo_launch_132 q_889 rfl (by decide) (by omega) (by decide) (by decide) (by decide) rfl rfl rfl rfl ?_
  refine fm_aload_n hc d_Mo_launch_135 rfl rfl ?_
  refine fm_getI (k := 4) hc K_Mo d_Mo_launch_136 q_889 rfl (by decide) (by omega) (by decide) (by decide) (by decide) rfl ?_
  refine fm_top (congrArg Value.int (p1_same _ _ _ _)) ?_
  refine fm_iconst (v := nI 1) hc d_Mo_launch_139 rfl ?_
  refine fm_isub hc d_Mo_launch_140 ?_
  refine fm_top (congrArg Value.int (pk_sub (a := a + 1) (b := 1) (by omega))) ?_
  exact fm_iret hc hr d_Mo_launch_141 (Nat.le_refl _) (Nat.le_refl _) ⟨rfl, rfl, rfl⟩
