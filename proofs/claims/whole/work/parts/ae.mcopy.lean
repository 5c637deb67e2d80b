/-! THE CLASS: copies of messages -/
section FMYB
variable {p : Program} {l : Launch} {e : Env} {R : Room} {s : State} {m : MethodId} {args : Array Value} {below : List Frame} {meth : Method} {c : Code} {Q : State → Prop}
variable {lay : Nat → Nat × Nat} {nf : Nat → Nat} {fk : Nat → Nat → Nat} {cl : List vw_C} {b : Nat} {x : Nat → Nat} {D : va_G} {dA : Nat → ClassId} {nL : Nat} {cc : ByteArray} {own : String} {Ts : List Cond} {tys : List (ClassId × FieldType)}
variable {pc : Nat} {lv : List (Nat × Value)} {st : List Value} {n : Nat} {M : fm_M} {z : Nat × Nat}
theorem fm_cpyB (hc : fm_Cx p s m args meth c cl b D nL cc own Ts tys) {o0 o1 l0 l1 sp dp k idx : Nat} (t0 : Nat) (hlink : Cond.methodLink own idx arraycopyName ∈ Ts) (hnat : Cond.native arraycopyName ∈ Ts) (hstat : Cond.static arraycopyName ∈ Ts) (hini : Cond.initialized "java/lang/System" ∈ Ts) (hd : decode cc pc = .ok (.invokestatic idx, 3)) (a8 : 8 ≤ o0) (an : o0 < n) (al : lay o0 = (102, l0)) (h8 : 8 ≤ o1) (hn : o1 < n) (hl : lay o1 = (102, l1)) (ht : tys[t0]? = some (dA 102, .byte)) (h4 : sp + k ≤ l0) (h5 : dp + k ≤ l1) (hl0 : l0 < 2 ^ 31) (hl1 : l1 < 2 ^ 31) (hft : ∀ i, i < k → fits .byte (.int (M.1 o0 (sp + i))) = true) (hfr : 1 ≤ R.frames) (hlo : (st.map fun v => v.category).sum + (nativeFrameWords "java/lang/System" "arraycopy" 5 + 11) ≤ R.locals)
    (kk : fm_G p l e R s m args below meth c Q lay nf fk cl b x D dA nL (pc + 3) lv st n (fm_cpy1 M o0 o1 sp dp k) z) : fm_G p l e R s m args below meth c Q lay nf fk cl b x D dA nL pc lv (.int (nI k) :: .int (nI dp) :: .ref o1 :: .int (nI sp) :: .ref o0 :: st) n M z := by
  intro ls H locs h1 h2 h3
  have hE : fm_cell lay nf fk (fm_ad b x) dA (fm_cpy1 M o0 o1 sp dp k) o1 = .inl (dA 102, l1, .inl (va_cpy (M.1 o0) (M.1 o1) sp dp k)) := by
    rw [fm_cell_int hl (by omega) (by omega)]
    simp [fm_cpy1, fm_upS]
  have hset := fm_ws_set (lay := lay) (nf := nf) (fk := fk) (b := b) (x := x) (dA := dA) (n := n) (M := M) (M' := fm_cpy1 M o0 o1 sp dp k) (o := o1) h8 hn hE (fun q _ hq => fm_cell_eq (by simp [fm_cpy1, va_up, hq]) rfl rfl)
  have hst : ((st.map (fm_v (fm_ad b x))).map fun v => v.category).sum = (st.map fun v => v.category).sum := by
    rw [List.map_map, show ((fun v => v.category) ∘ fm_v (fm_ad b x)) = (fun v : Value => v.category) from funext (fun v => fm_v_cat _ v)]
  refine va_copyi (rest := st.map (fm_v (fm_ad b x))) hc.1 hc.2.1 (by rw [hc.2.2.1]; exact h1.1.symm) hc.2.2.2.1 (hc.2.2.2.2.1 _ hlink) (hc.2.2.2.2.1 _ hnat) (hc.2.2.2.2.1 _ hstat) (hc.2.2.2.2.1 _ hini) hc.2.2.2.2.2.1 h2 fm_ws_D h3 (o0 - 8) (o1 - 8) t0 t0 (by rw [fm_ws_at a8 an, fm_cell_int al (by omega) (by omega)]) (by rw [fm_ws_at h8 hn, fm_cell_int hl (by omega) (by omega)]) ht ht rfl (nI_pos (by omega)) (nI_pos (by omega)) (nI_pos (by omega)) (by rw [nI_clamp (by omega), nI_clamp (by omega)]; exact h4) (by rw [nI_clamp (by omega), nI_clamp (by omega)]; exact h5) (fun i hi => by rw [nI_clamp (by omega)] at hi ⊢; exact hft i hi) hfr (by rw [hst]; exact hlo) hd (fun H1 locs1 g1 g2 g3 => ?_)
  rw [nI_clamp (show sp < 2 ^ 31 by omega), nI_clamp (show dp < 2 ^ 31 by omega), nI_clamp (show k < 2 ^ 31 by omega), hset] at g1
  exact kk ls H1 locs1 h1 g1 g3
end FMYB
theorem fits_b : ∀ v, v < 256 → fits .byte (.int (nI v).toInt8.toInt32) = true := by decide +kernel
/-- a message as it may be -/
def mg_ok (m : mg_T) : Prop := m.1 ≤ 1 ∧ m.2.2.2.2.2.length ≤ 121 ∧ ∀ v ∈ m.2.2.2.2.2, v < 256
theorem c_msCopy {l : Launch} {b : Nat} {x : Nat → Nat} {D : va_G} {dA : Nat → ClassId} {o q n : Nat} {m0 : mg_T} {M : fm_M} (hL : ms_L n o) (hQ : ms_L n q) (hoq : o + 1 < q ∨ q + 1 < o) (h7 : M.2.2 o 7 = some (o + 1)) (hq7 : M.2.2 q 7 = some (q + 1)) (h : hc_G M q m0) (hm : mg_ok m0) : Met l y_Ms_copyFrom (Cond.code y_Ms_copyFrom b_Ms_copyFrom 2 none :: fm_T0) ({ frames := 1, cells := 0, slots := 0, locals := 40 }) (fm_Pc fm_lay fm_nf fm_fk fm_cl b x D dA (fm_tys dA) (fm_EX b x) false [.ref o, .ref q] n M) (fm_Qc fm_lay fm_nf fm_fk fm_cl b x D dA (fun r n' M' => r = none ∧ n' = n ∧ hc_G M' o m0 ∧ M'.2 = M.2 ∧ ∀ z, z ≠ o → z ≠ o + 1 → M'.1 z = M.1 z)) 0 0 (fm_A b) := by
  refine fm_enter (by decide) (Nat.le_of_ble_eq_true rfl) ?_
  intro p e s m args below meth c9 hc hr hnm hex htg
  have hl1 := hL.1
  have hl2 := hL.2.1
  have hl3 := hL.2.2.1
  have hk1 := hQ.1
  have hk2 := hQ.2.1
  have hk3 := hQ.2.2.1
  obtain ⟨mr, ma, mv, mf, mt, mb⟩ := m0
  obtain ⟨h0, h1, h2, h3, h4, h5, h6⟩ := h
  obtain ⟨k1, k2, k3⟩ := hm
  have k1 : mr ≤ 1 := k1
  have k2 : mb.length ≤ 121 := k2
  have k3 : ∀ v ∈ mb, v < 256 := k3
  rcases (show mr = 0 ∨ mr = 1 by omega) with rfl | rfl
  · refine fm_aload_n hc d_Ms_copyFrom_0 rfl rfl ?_
    refine fm_aload_n hc d_Ms_copyFrom_1 rfl rfl ?_
    refine fm_getI (k := 1) hc K_Ms d_Ms_copyFrom_2 q_52 rfl (by omega) (by omega) hQ.2.2.2.1 (by decide) (by decide) rfl ?_
    refine fm_top (congrArg Value.int (show M.1 q 1 = nI ma from h1)) ?_
    refine fm_aload_n hc d_Ms_copyFrom_5 rfl rfl ?_
    refine fm_getI (k := 2) hc K_Ms d_Ms_copyFrom_6 q_54 rfl (by omega) (by omega) hQ.2.2.2.1 (by decide) (by decide) rfl ?_
    refine fm_top (congrArg Value.int (show M.1 q 2 = mv from h2)) ?_
    refine fm_aload_n hc d_Ms_copyFrom_9 rfl rfl ?_
    refine fm_getI (k := 3) hc K_Ms d_Ms_copyFrom_10 q_56 rfl (by omega) (by omega) hQ.2.2.2.1 (by decide) (by decide) rfl ?_
    refine fm_top (congrArg Value.int (show M.1 q 3 = mf from h3)) ?_
    refine fm_aload_n hc d_Ms_copyFrom_13 rfl rfl ?_
    refine fm_getI (k := 4) hc K_Ms d_Ms_copyFrom_14 q_58 rfl (by omega) (by omega) hQ.2.2.2.1 (by decide) (by decide) rfl ?_
    refine fm_top (congrArg Value.int (show M.1 q 4 = mt from h4)) ?_
    refine fm_callV (av := [.int (nI ma), .int mv, .int mf, .int mt]) (rest := []) (ob := o) (ci := 9) (r0 := ("AgentNet$Message", F_Ms, 8)) (y := y_Ms_address) (bytes := b_Ms_address) hc fm_T0_good (fm_EX_st b x) hex q_733 q_3 q_851 q_731 q_732 pd_Ms_address (by omega) (by omega) hL.2.2.2.1 (by decide) rfl rfl (c_address hL) ⟨rfl, rfl, Nat.le_of_ble_eq_true rfl, Nat.le_of_ble_eq_true rfl⟩ ⟨Nat.le_of_ble_eq_true rfl, Nat.le_of_ble_eq_true rfl⟩ d_Ms_copyFrom_17 (Nat.le_of_ble_eq_true rfl) (fun r n2 M2 hp => ?_)
    obtain ⟨rfl, hq1, hq2⟩ := hp
    replace hq1 := hq1.symm
    subst hq1
    have e2 : M2.2 = M.2 := by rw [hq2]; rfl
    have a1 : M2.1 o 1 = nI ma := by rw [hq2]; simp [fm_put1, va_up]
    have a2 : M2.1 o 2 = mv := by rw [hq2]; simp [fm_put1, va_up]
    have a3 : M2.1 o 3 = mf := by rw [hq2]; simp [fm_put1, va_up]
    have a4 : M2.1 o 4 = mt := by rw [hq2]; simp [fm_put1, va_up]
    have ex : ∀ z, z ≠ o → M2.1 z = M.1 z := fun z hne => by rw [hq2]; simp [fm_put1, va_up, hne]
    clear hq2
    revert e2 a1 a2 a3 a4 ex
    generalize M2 = Ma
    intro e2 a1 a2 a3 a4 ex
    refine fm_cnt (z' := (0, 0)) rfl (fm_st (st' := []) rfl ?_)
    refine fm_aload_n hc d_Ms_copyFrom_20 rfl rfl ?_
    refine fm_aload_n hc d_Ms_copyFrom_21 rfl rfl ?_
    refine fm_getI (k := 0) hc K_Ms d_Ms_copyFrom_22 q_50 rfl (by omega) (by omega) hQ.2.2.2.1 (by decide) (by decide) rfl ?_
    refine fm_top (congrArg Value.int (show Ma.1 q 0 = nI 1 from (by rw [ex q (by omega)]; exact h0))) ?_
    refine fm_putI (k := 0) (v := nI 1) hc K_Ms d_Ms_copyFrom_25 q_50 rfl (by omega) (by omega) hL.2.2.2.1 (by decide) (by decide) rfl rfl rfl rfl ?_
    refine fm_aload_n hc d_Ms_copyFrom_28 rfl rfl ?_
    refine fm_aload_n hc d_Ms_copyFrom_29 rfl rfl ?_
    refine fm_getI (k := 5) hc K_Ms d_Ms_copyFrom_30 q_60 rfl (by omega) (by omega) hQ.2.2.2.1 (by decide) (by decide) rfl ?_
    refine fm_top (congrArg Value.int (show (fm_put1 Ma o 0 (nI 1)).1 q 5 = nI mb.length from (by rw [p1_other (by omega), ex q (by omega)]; exact h5))) ?_
    refine fm_putI (k := 5) (v := nI mb.length) hc K_Ms d_Ms_copyFrom_33 q_60 rfl (by omega) (by omega) hL.2.2.2.1 (by decide) (by decide) rfl rfl rfl rfl ?_
    refine fm_mem (M' := fm_put1 (fm_put1 Ma o 0 (nI 1)) o 5 (nI mb.length)) rfl rfl ?_
    refine fm_aload_n hc d_Ms_copyFrom_36 rfl rfl ?_
    refine fm_getR (k := 7) (q := q + 1) hc K_Ms d_Ms_copyFrom_37 q_62 rfl (by omega) (by omega) hQ.2.2.2.1 (by decide) (by decide) rfl (show Ma.2.2 q 7 = some (q + 1) by rw [e2]; exact hq7) ?_
    refine fm_iconst (v := nI 0) hc d_Ms_copyFrom_40 rfl ?_
    refine fm_aload_n hc d_Ms_copyFrom_41 rfl rfl ?_
    refine fm_getR (k := 7) (q := o + 1) hc K_Ms d_Ms_copyFrom_42 q_62 rfl (by omega) (by omega) hL.2.2.2.1 (by decide) (by decide) rfl (show Ma.2.2 o 7 = some (o + 1) by rw [e2]; exact h7) ?_
    refine fm_iconst (v := nI 0) hc d_Ms_copyFrom_45 rfl ?_
    refine fm_aload_n hc d_Ms_copyFrom_46 rfl rfl ?_
    refine fm_getI (k := 5) hc K_Ms d_Ms_copyFrom_47 q_60 rfl (by omega) (by omega) hL.2.2.2.1 (by decide) (by decide) rfl ?_
    refine fm_top (congrArg Value.int (show (fm_put1 (fm_put1 Ma o 0 (nI 1)) o 5 (nI mb.length)).1 o 5 = nI mb.length from (p1_same _ _ _ _))) ?_
    refine fm_cpyB (o0 := q + 1) (o1 := o + 1) (l0 := 121) (l1 := 121) (sp := 0) (dp := 0) (k := mb.length) hc 2 q_852 q_586 q_585 q_20 d_Ms_copyFrom_50 (by omega) (by omega) hQ.2.2.2.2 (by omega) (by omega) hL.2.2.2.2 rfl (by omega) (by omega) (by decide) (by decide) (fun i hi => by rw [Nat.zero_add, p1_other (by omega), p1_other (by omega), ex (q + 1) (by omega), h6 i mb[i] (List.getElem?_eq_getElem hi)]; exact fits_b _ (k3 _ (List.getElem_mem hi))) (Nat.le_of_ble_eq_true rfl) (Nat.le_of_ble_eq_true rfl) ?_
    exact fm_vret hc hr d_Ms_copyFrom_53 (Nat.le_refl _) (Nat.le_refl _) ⟨rfl, rfl, ⟨by rw [cpy1_ot (by omega), p1_at (by decide), p1_same]; rfl, by rw [cpy1_ot (by omega), p1_at (by decide), p1_at (by decide)]; exact a1, by rw [cpy1_ot (by omega), p1_at (by decide), p1_at (by decide)]; exact a2, by rw [cpy1_ot (by omega), p1_at (by decide), p1_at (by decide)]; exact a3, by rw [cpy1_ot (by omega), p1_at (by decide), p1_at (by decide)]; exact a4, by rw [cpy1_ot (by omega), p1_same], fun i v hv => by rw [cpy1_in (List.getElem?_eq_some_iff.mp hv).1, p1_other (by omega), p1_other (by omega), ex (q + 1) (by omega)]; exact h6 i v hv⟩, e2, fun z c1 c2 => by rw [cpy1_ot c2]; exact (funext fun i => (p1_other c1).trans (p1_other c1)).trans (ex z c1)⟩
  · refine fm_aload_n hc d_Ms_copyFrom_0 rfl rfl ?_
    refine fm_aload_n hc d_Ms_copyFrom_1 rfl rfl ?_
    refine fm_getI (k := 1) hc K_Ms d_Ms_copyFrom_2 q_52 rfl (by omega) (by omega) hQ.2.2.2.1 (by decide) (by decide) rfl ?_
    refine fm_top (congrArg Value.int (show M.1 q 1 = nI ma from h1)) ?_
    refine fm_aload_n hc d_Ms_copyFrom_5 rfl rfl ?_
    refine fm_getI (k := 2) hc K_Ms d_Ms_copyFrom_6 q_54 rfl (by omega) (by omega) hQ.2.2.2.1 (by decide) (by decide) rfl ?_
    refine fm_top (congrArg Value.int (show M.1 q 2 = mv from h2)) ?_
    refine fm_aload_n hc d_Ms_copyFrom_9 rfl rfl ?_
    refine fm_getI (k := 3) hc K_Ms d_Ms_copyFrom_10 q_56 rfl (by omega) (by omega) hQ.2.2.2.1 (by decide) (by decide) rfl ?_
    refine fm_top (congrArg Value.int (show M.1 q 3 = mf from h3)) ?_
    refine fm_aload_n hc d_Ms_copyFrom_13 rfl rfl ?_
    refine fm_getI (k := 4) hc K_Ms d_Ms_copyFrom_14 q_58 rfl (by omega) (by omega) hQ.2.2.2.1 (by decide) (by decide) rfl ?_
    refine fm_top (congrArg Value.int (show M.1 q 4 = mt from h4)) ?_
    refine fm_callV (av := [.int (nI ma), .int mv, .int mf, .int mt]) (rest := []) (ob := o) (ci := 9) (r0 := ("AgentNet$Message", F_Ms, 8)) (y := y_Ms_address) (bytes := b_Ms_address) hc fm_T0_good (fm_EX_st b x) hex q_733 q_3 q_851 q_731 q_732 pd_Ms_address (by omega) (by omega) hL.2.2.2.1 (by decide) rfl rfl (c_address hL) ⟨rfl, rfl, Nat.le_of_ble_eq_true rfl, Nat.le_of_ble_eq_true rfl⟩ ⟨Nat.le_of_ble_eq_true rfl, Nat.le_of_ble_eq_true rfl⟩ d_Ms_copyFrom_17 (Nat.le_of_ble_eq_true rfl) (fun r n2 M2 hp => ?_)
    obtain ⟨rfl, hq1, hq2⟩ := hp
    replace hq1 := hq1.symm
    subst hq1
    have e2 : M2.2 = M.2 := by rw [hq2]; rfl
    have a1 : M2.1 o 1 = nI ma := by rw [hq2]; simp [fm_put1, va_up]
    have a2 : M2.1 o 2 = mv := by rw [hq2]; simp [fm_put1, va_up]
    have a3 : M2.1 o 3 = mf := by rw [hq2]; simp [fm_put1, va_up]
    have a4 : M2.1 o 4 = mt := by rw [hq2]; simp [fm_put1, va_up]
    have ex : ∀ z, z ≠ o → M2.1 z = M.1 z := fun z hne => by rw [hq2]; simp [fm_put1, va_up, hne]
    clear hq2
    revert e2 a1 a2 a3 a4 ex
    generalize M2 = Ma
    intro e2 a1 a2 a3 a4 ex
    refine fm_cnt (z' := (0, 0)) rfl (fm_st (st' := []) rfl ?_)
    refine fm_aload_n hc d_Ms_copyFrom_20 rfl rfl ?_
    refine fm_aload_n hc d_Ms_copyFrom_21 rfl rfl ?_
    refine fm_getI (k := 0) hc K_Ms d_Ms_copyFrom_22 q_50 rfl (by omega) (by omega) hQ.2.2.2.1 (by decide) (by decide) rfl ?_
    refine fm_top (congrArg Value.int (show Ma.1 q 0 = nI 0 from (by rw [ex q (by omega)]; exact h0))) ?_
    refine fm_putI (k := 0) (v := nI 0) hc K_Ms d_Ms_copyFrom_25 q_50 rfl (by omega) (by omega) hL.2.2.2.1 (by decide) (by decide) rfl rfl rfl rfl ?_
    refine fm_aload_n hc d_Ms_copyFrom_28 rfl rfl ?_
    refine fm_aload_n hc d_Ms_copyFrom_29 rfl rfl ?_
    refine fm_getI (k := 5) hc K_Ms d_Ms_copyFrom_30 q_60 rfl (by omega) (by omega) hQ.2.2.2.1 (by decide) (by decide) rfl ?_
    refine fm_top (congrArg Value.int (show (fm_put1 Ma o 0 (nI 0)).1 q 5 = nI mb.length from (by rw [p1_other (by omega), ex q (by omega)]; exact h5))) ?_
    refine fm_putI (k := 5) (v := nI mb.length) hc K_Ms d_Ms_copyFrom_33 q_60 rfl (by omega) (by omega) hL.2.2.2.1 (by decide) (by decide) rfl rfl rfl rfl ?_
    refine fm_mem (M' := fm_put1 (fm_put1 Ma o 0 (nI 0)) o 5 (nI mb.length)) rfl rfl ?_
    refine fm_aload_n hc d_Ms_copyFrom_36 rfl rfl ?_
    refine fm_getR (k := 7) (q := q + 1) hc K_Ms d_Ms_copyFrom_37 q_62 rfl (by omega) (by omega) hQ.2.2.2.1 (by decide) (by decide) rfl (show Ma.2.2 q 7 = some (q + 1) by rw [e2]; exact hq7) ?_
    refine fm_iconst (v := nI 0) hc d_Ms_copyFrom_40 rfl ?_
    refine fm_aload_n hc d_Ms_copyFrom_41 rfl rfl ?_
    refine fm_getR (k := 7) (q := o + 1) hc K_Ms d_Ms_copyFrom_42 q_62 rfl (by omega) (by omega) hL.2.2.2.1 (by decide) (by decide) rfl (show Ma.2.2 o 7 = some (o + 1) by rw [e2]; exact h7) ?_
    refine fm_iconst (v := nI 0) hc d_Ms_copyFrom_45 rfl ?_
    refine fm_aload_n hc d_Ms_copyFrom_46 rfl rfl ?_
    refine fm_getI (k := 5) hc K_Ms d_Ms_copyFrom_47 q_60 rfl (by omega) (by omega) hL.2.2.2.1 (by decide) (by decide) rfl ?_
    refine fm_top (congrArg Value.int (show (fm_put1 (fm_put1 Ma o 0 (nI 0)) o 5 (nI mb.length)).1 o 5 = nI mb.length from (p1_same _ _ _ _))) ?_
    refine fm_cpyB (o0 := q + 1) (o1 := o + 1) (l0 := 121) (l1 := 121) (sp := 0) (dp := 0) (k := mb.length) hc 2 q_852 q_586 q_585 q_20 d_Ms_copyFrom_50 (by omega) (by omega) hQ.2.2.2.2 (by omega) (by omega) hL.2.2.2.2 rfl (by omega) (by omega) (by decide) (by decide) (fun i hi => by rw [Nat.zero_add, p1_other (by omega), p1_other (by omega), ex (q + 1) (by omega), h6 i mb[i] (List.getElem?_eq_getElem hi)]; exact fits_b _ (k3 _ (List.getElem_mem hi))) (Nat.le_of_ble_eq_true rfl) (Nat.le_of_ble_eq_true rfl) ?_
    exact fm_vret hc hr d_Ms_copyFrom_53 (Nat.le_refl _) (Nat.le_refl _) ⟨rfl, rfl, ⟨by rw [cpy1_ot (by omega), p1_at (by decide), p1_same]; rfl, by rw [cpy1_ot (by omega), p1_at (by decide), p1_at (by decide)]; exact a1, by rw [cpy1_ot (by omega), p1_at (by decide), p1_at (by decide)]; exact a2, by rw [cpy1_ot (by omega), p1_at (by decide), p1_at (by decide)]; exact a3, by rw [cpy1_ot (by omega), p1_at (by decide), p1_at (by decide)]; exact a4, by rw [cpy1_ot (by omega), p1_same], fun i v hv => by rw [cpy1_in (List.getElem?_eq_some_iff.mp hv).1, p1_other (by omega), p1_other (by omega), ex (q + 1) (by omega)]; exact h6 i v hv⟩, e2, fun z c1 c2 => by rw [cpy1_ot c2]; exact (funext fun i => (p1_other c1).trans (p1_other c1)).trans (ex z c1)⟩
theorem c_repeat {l : Launch} {b : Nat} {x : Nat → Nat} {D : va_G} {dA : Nat → ClassId} {k n : Nat} {w : Nat → Nat} {ms : List mg_T} {m0 : mg_T} {M : fm_M} (hn : 586 ≤ n) (hpw : wi_P M w) (h : hc_W M w ms) (hl : ms.length < 20) (hk : ms[k]? = some m0) (hm : mg_ok m0) : Met l y_Wi_repeat (Cond.code y_Wi_repeat b_Wi_repeat 2 none :: fm_T0) ({ frames := 2, cells := 0, slots := 0, locals := 90 }) (fm_Pc fm_lay fm_nf fm_fk fm_cl b x D dA (fm_tys dA) (fm_EX b x) false [.ref 16, .int (nI k)] n M) (fm_Qc fm_lay fm_nf fm_fk fm_cl b x D dA (fun r n' M' => r = none ∧ n' = n ∧ hc_W M' w (ms ++ [m0]) ∧ fw_M M M')) 0 0 (fm_A b) := by
  refine fm_enter (by decide) (Nat.le_of_ble_eq_true rfl) ?_
  intro p e s m args below meth c9 hc hr hnm hex htg
  have hkl : k < ms.length := (List.getElem?_eq_some_iff.mp hk).1
  obtain ⟨o, ho⟩ : ∃ o, o = 18 + 2 * w ms.length := ⟨_, rfl⟩
  obtain ⟨q, hq⟩ : ∃ q, q = 18 + 2 * w k := ⟨_, rfl⟩
  have hwl := hpw.2.2.2.1 ms.length (by omega)
  have hwk := hpw.2.2.2.1 k (by omega)
  have hne : w k ≠ w ms.length := fun e => by have := hpw.2.2.2.2.1 k ms.length (by omega) (by omega) e; omega
  have hL : ms_L n o := by rw [ho]; exact ms_of hn hwl
  have hQ : ms_L n q := by rw [hq]; exact ms_of hn hwk
  have ho1 := hL.1
  have ho2 := hL.2.1
  have hq1 := hQ.1
  have hq2 := hQ.2.1
  have hpo : M.2.2 17 ms.length = some o := by rw [ho]; exact hpw.2.1 _ hl
  have hpq : M.2.2 17 k = some q := by rw [hq]; exact hpw.2.1 _ (by omega)
  have h7 : M.2.2 o 7 = some (o + 1) := by rw [ho]; exact hpw.2.2.2.2.2 _ hwl
  have hq7 : M.2.2 q 7 = some (q + 1) := by rw [hq]; exact hpw.2.2.2.2.2 _ hwk
  refine fm_aload_n hc d_Wi_repeat_0 rfl rfl ?_
  refine fm_callV (av := []) (rest := []) (ob := 16) (ci := 4) (r0 := ("AgentNet$Wire", F_Wi, 3)) (y := y_Wi_isFull) (bytes := b_Wi_isFull) hc fm_T0_good (fm_EX_st b x) hex q_729 q_2 q_726 q_727 q_728 pd_Wi_isFull (by decide) (by omega) (by decide) (by decide) rfl rfl (c_isFull0 hn h.1 hl) ⟨rfl, rfl, Nat.le_of_ble_eq_true rfl, Nat.le_of_ble_eq_true rfl⟩ ⟨Nat.le_of_ble_eq_true rfl, Nat.le_of_ble_eq_true rfl⟩ d_Wi_repeat_1 (Nat.le_of_ble_eq_true rfl) (fun r n2 M2 hp => ?_)
  obtain ⟨rfl, hq1, hq2⟩ := hp
  replace hq1 := hq1.symm
  replace hq2 := hq2.symm
  subst hq1 hq2
  refine fm_cnt (z' := (0, 0)) rfl (fm_st (st' := [.int (nI 0)]) rfl ?_)
  refine fm_if_ne (tgt := 35) hc d_Wi_repeat_4 rfl (fun gQ => absurd (by decide) gQ) (fun _ => ?_)
  refine fm_aload_n hc d_Wi_repeat_7 rfl rfl ?_
  refine fm_getR (k := 0) (q := 17) hc K_Wi d_Wi_repeat_8 q_82 rfl (by decide) (by omega) (by decide) (by decide) (by decide) rfl hpw.1 ?_
  refine fm_aload_n hc d_Wi_repeat_11 rfl rfl ?_
  refine fm_getI (k := 1) hc K_Wi d_Wi_repeat_12 q_84 rfl (by decide) (by omega) (by decide) (by decide) (by decide) rfl ?_
  refine fm_top (congrArg Value.int (show M.1 16 1 = nI ms.length from h.1)) ?_
  refine fm_aald (q := o) (j := ms.length) (len := 20) hc 6 d_Wi_repeat_15 (by decide) (by omega) (by decide) (by decide) rfl (by omega) (by decide) hpo ?_
  refine fm_aload_n hc d_Wi_repeat_16 rfl rfl ?_
  refine fm_getR (k := 0) (q := 17) hc K_Wi d_Wi_repeat_17 q_82 rfl (by decide) (by omega) (by decide) (by decide) (by decide) rfl hpw.1 ?_
  refine fm_iload_n hc d_Wi_repeat_20 rfl rfl ?_
  refine fm_aald (q := q) (j := k) (len := 20) hc 6 d_Wi_repeat_21 (by decide) (by omega) (by decide) (by decide) rfl (by omega) (by decide) hpq ?_
  refine fm_callV (av := [.ref q]) (rest := []) (ob := o) (ci := 9) (r0 := ("AgentNet$Message", F_Ms, 8)) (y := y_Ms_copyFrom) (bytes := b_Ms_copyFrom) hc fm_T0_good (fm_EX_st b x) hex q_850 q_3 q_847 q_848 q_849 pd_Ms_copyFrom (by omega) (by omega) hL.2.2.2.1 (by decide) rfl rfl (c_msCopy hL hQ (by omega) h7 hq7 (by rw [hq]; exact h.2.2 k m0 hk) hm) ⟨rfl, rfl, Nat.le_of_ble_eq_true rfl, Nat.le_of_ble_eq_true rfl⟩ ⟨Nat.le_of_ble_eq_true rfl, Nat.le_of_ble_eq_true rfl⟩ d_Wi_repeat_22 (Nat.le_of_ble_eq_true rfl) (fun r n2 M2 hp => ?_)
  obtain ⟨rfl, hq1, r1, r2, r3⟩ := hp
  replace hq1 := hq1.symm
  subst hq1
  revert r1 r2 r3
  generalize M2 = Ma
  intro r1 r2 r3
  refine fm_cnt (z' := (0, 0)) rfl (fm_st (st' := []) rfl ?_)
  refine fm_aload_n hc d_Wi_repeat_25 rfl rfl ?_
  refine fm_dup hc d_Wi_repeat_26 rfl ?_
  refine fm_getI (k := 1) hc K_Wi d_Wi_repeat_27 q_84 rfl (by decide) (by omega) (by decide) (by decide) (by decide) rfl ?_
  refine fm_top (congrArg Value.int (show Ma.1 16 1 = nI ms.length from (by rw [r3 16 (by omega) (by omega)]; exact h.1))) ?_
  refine fm_iconst (v := nI 1) hc d_Wi_repeat_30 rfl ?_
  refine fm_iadd hc d_Wi_repeat_31 ?_
  refine fm_top (congrArg Value.int (nI_add ms.length 1)) ?_
  have fin1 : hc_W (fm_put1 Ma 16 1 (nI (ms.length + 1))) w (wi_send ms m0) := by
    refine hcW_add hpw h hl (fun z c1 c2 c3 => ?_) (p1_same _ _ _ _) ?_
    · rw [← ho] at c1 c2
      exact (funext (fun i => p1_other c3)).trans (r3 z c1 c2)
    · rw [← ho]
      exact hcG_of (funext (fun i => p1_other (by omega))) (funext (fun i => p1_other (by omega))) r1
  rw [wi_send, if_pos hl] at fin1
  have fin2 : fw_M M (fm_put1 Ma 16 1 (nI (ms.length + 1))) := ⟨r2, fun z c => (funext (fun i => p1_other (by omega))).trans (r3 z (by omega) (by omega))⟩
  refine fm_putI (k := 1) (v := nI (ms.length + 1)) hc K_Wi d_Wi_repeat_32 q_84 rfl (by decide) (by omega) (by decide) (by decide) (by decide) rfl rfl rfl rfl ?_
  exact fm_vret hc hr d_Wi_repeat_35 (Nat.le_refl _) (Nat.le_refl _) ⟨rfl, rfl, fin1, fin2⟩
