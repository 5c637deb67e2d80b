/-! THE REFERENCE: copyMessage, hear, hearValue, unpack -/
theorem zn_1 {r : Nat} (h : r ≤ 1) : vp_nar .boolean (nI r) = nI r := by
  rcases (show r = 0 ∨ r = 1 by omega) with rfl | rfl <;> rfl
def fl_M (l : Nat) (M M' : fm_M) : Prop := M'.2 = M.2 ∧ ∀ q j, ¬ (621 ≤ q ∧ q ≤ 626 ∧ j = l) → ¬ (q = 627 ∧ 128 * l ≤ j ∧ j < 128 * l + 128) → M'.1 q j = M.1 q j
theorem flM_RP {l : Nat} {M M' : fm_M} (h : fl_M l M M') (g : fm_RP M) : fm_RP M' := fun q hq => by rw [h.1]; exact g q hq
theorem fvM_l {l : Nat} {M M' : fm_M} (h : fl_M l M M') : fv_M M M' := ⟨h.1, fun q j a _ _ _ => h.2 q j (by omega) (by omega)⟩
theorem hrWk_l {l k : Nat} {M M' : fm_M} {m : mg_T} (hne : k ≠ l) (f : fl_M l M M') (h : hr_Wk M k m) : hr_Wk M' k m := hrWk_of (fun q a b => f.2 _ _ (by omega) (by omega)) (fun i hi => f.2 _ _ (by omega) (by omega)) h
theorem rc_copyMsg {l : Launch} {b : Nat} {x : Nat → Nat} {D : va_G} {dA : Nat → ClassId} {u v n : Nat} {m0 : mg_T} {M : fm_M} (hn : 629 ≤ n) (hR : fm_RP M) (hu : u < 21) (hv : v < 21) (huv : u ≠ v) (h : hr_Wk M u m0) (hr1 : m0.1 ≤ 1) : Met l y_Mo_copyMessage (Cond.code y_Mo_copyMessage b_Mo_copyMessage 4 none :: fm_T0) ({ frames := 0, cells := 0, slots := 0, locals := 0 }) (fm_Pc fm_lay fm_nf fm_fk fm_cl b x D dA (fm_tys dA) (fm_EX b x) false [.ref 586, .int (nI u), .int (nI v)] n M) (fm_Qc fm_lay fm_nf fm_fk fm_cl b x D dA (fun r n' M' => r = none ∧ n' = n ∧ hr_Wk M' v m0 ∧ fl_M v M M')) 0 0 (fm_A b) := by
  refine fm_enter (by decide) (Nat.le_of_ble_eq_true rfl) ?_
  intro p e s m args below meth c9 hc hr hnm hex htg
  obtain ⟨mr, ma, mv, mf, mt, mb⟩ := m0
  obtain ⟨h1, h2, h3, h4, h5, h6, h7, h8⟩ := h
  have hr1 : mr ≤ 1 := hr1
  have h7 : mb.length ≤ 121 := h7
  refine fm_aload_n hc d_Mo_copyMessage_0 rfl rfl ?_
  refine fm_getR (k := 38) (q := 621) hc K_Mo d_Mo_copyMessage_1 q_923 rfl (by decide) (by omega) (by decide) (by decide) (by decide) rfl (rp_receipt hR) ?_
  refine fm_iload_n hc d_Mo_copyMessage_4 rfl rfl ?_
  refine fm_aload_n hc d_Mo_copyMessage_5 rfl rfl ?_
  refine fm_getR (k := 38) (q := 621) hc K_Mo d_Mo_copyMessage_6 q_923 rfl (by decide) (by omega) (by decide) (by decide) (by decide) rfl (rp_receipt hR) ?_
  refine fm_iload_n hc d_Mo_copyMessage_9 rfl rfl ?_
  refine fm_zald (j := u) (len := 21) hc 1 d_Mo_copyMessage_10 (by decide) (by omega) (by decide) rfl (by omega) (by decide) ?_
  refine fm_top (congrArg Value.int (show M.1 621 u = nI mr from h1)) ?_
  refine fm_zast (j := v) (len := 21) (v := nI mr) hc 1 d_Mo_copyMessage_11 (by decide) (by omega) (by decide) rfl (by omega) (by decide) ?_
  refine fm_mem (M' := fm_put1 M 621 v (nI mr)) rfl (by rw [zn_1 hr1]) ?_
  refine fm_aload_n hc d_Mo_copyMessage_12 rfl rfl ?_
  refine fm_getR (k := 39) (q := 622) hc K_Mo d_Mo_copyMessage_13 q_924 rfl (by decide) (by omega) (by decide) (by decide) (by decide) rfl (rp_who hR) ?_
  refine fm_iload_n hc d_Mo_copyMessage_16 rfl rfl ?_
  refine fm_aload_n hc d_Mo_copyMessage_17 rfl rfl ?_
  refine fm_getR (k := 39) (q := 622) hc K_Mo d_Mo_copyMessage_18 q_924 rfl (by decide) (by omega) (by decide) (by decide) (by decide) rfl (rp_who hR) ?_
  refine fm_iload_n hc d_Mo_copyMessage_21 rfl rfl ?_
  refine fm_iald (j := u) (len := 21) hc 0 d_Mo_copyMessage_22 (by decide) (by omega) (by decide) rfl (by omega) (by decide) ?_
  refine fm_top (congrArg Value.int (show (fm_put1 M 621 v (nI mr)).1 622 u = nI ma from ((p1_other (by decide)).trans (h2)))) ?_
  refine fm_iast (j := v) (len := 21) (v := nI ma) hc 0 d_Mo_copyMessage_23 (by decide) (by omega) (by decide) rfl (by omega) (by decide) ?_
  refine fm_aload_n hc d_Mo_copyMessage_24 rfl rfl ?_
  refine fm_getR (k := 40) (q := 623) hc K_Mo d_Mo_copyMessage_25 q_925 rfl (by decide) (by omega) (by decide) (by decide) (by decide) rfl (rp_far hR) ?_
  refine fm_iload_n hc d_Mo_copyMessage_28 rfl rfl ?_
  refine fm_aload_n hc d_Mo_copyMessage_29 rfl rfl ?_
  refine fm_getR (k := 40) (q := 623) hc K_Mo d_Mo_copyMessage_30 q_925 rfl (by decide) (by omega) (by decide) (by decide) (by decide) rfl (rp_far hR) ?_
  refine fm_iload_n hc d_Mo_copyMessage_33 rfl rfl ?_
  refine fm_iald (j := u) (len := 21) hc 0 d_Mo_copyMessage_34 (by decide) (by omega) (by decide) rfl (by omega) (by decide) ?_
  refine fm_top (congrArg Value.int (show (fm_put1 (fm_put1 M 621 v (nI mr)) 622 v (nI ma)).1 623 u = mv from ((p1_other (by decide)).trans ((p1_other (by decide)).trans (h3))))) ?_
  refine fm_iast (j := v) (len := 21) (v := mv) hc 0 d_Mo_copyMessage_35 (by decide) (by omega) (by decide) rfl (by omega) (by decide) ?_
  refine fm_aload_n hc d_Mo_copyMessage_36 rfl rfl ?_
  refine fm_getR (k := 41) (q := 624) hc K_Mo d_Mo_copyMessage_37 q_926 rfl (by decide) (by omega) (by decide) (by decide) (by decide) rfl (rp_from hR) ?_
  refine fm_iload_n hc d_Mo_copyMessage_40 rfl rfl ?_
  refine fm_aload_n hc d_Mo_copyMessage_41 rfl rfl ?_
  refine fm_getR (k := 41) (q := 624) hc K_Mo d_Mo_copyMessage_42 q_926 rfl (by decide) (by omega) (by decide) (by decide) (by decide) rfl (rp_from hR) ?_
  refine fm_iload_n hc d_Mo_copyMessage_45 rfl rfl ?_
  refine fm_iald (j := u) (len := 21) hc 0 d_Mo_copyMessage_46 (by decide) (by omega) (by decide) rfl (by omega) (by decide) ?_
  refine fm_top (congrArg Value.int (show (fm_put1 (fm_put1 (fm_put1 M 621 v (nI mr)) 622 v (nI ma)) 623 v mv).1 624 u = mf from ((p1_other (by decide)).trans ((p1_other (by decide)).trans ((p1_other (by decide)).trans (h4)))))) ?_
  refine fm_iast (j := v) (len := 21) (v := mf) hc 0 d_Mo_copyMessage_47 (by decide) (by omega) (by decide) rfl (by omega) (by decide) ?_
  refine fm_aload_n hc d_Mo_copyMessage_48 rfl rfl ?_
  refine fm_getR (k := 42) (q := 625) hc K_Mo d_Mo_copyMessage_49 q_927 rfl (by decide) (by omega) (by decide) (by decide) (by decide) rfl (rp_to hR) ?_
  refine fm_iload_n hc d_Mo_copyMessage_52 rfl rfl ?_
  refine fm_aload_n hc d_Mo_copyMessage_53 rfl rfl ?_
  refine fm_getR (k := 42) (q := 625) hc K_Mo d_Mo_copyMessage_54 q_927 rfl (by decide) (by omega) (by decide) (by decide) (by decide) rfl (rp_to hR) ?_
  refine fm_iload_n hc d_Mo_copyMessage_57 rfl rfl ?_
  refine fm_iald (j := u) (len := 21) hc 0 d_Mo_copyMessage_58 (by decide) (by omega) (by decide) rfl (by omega) (by decide) ?_
  refine fm_top (congrArg Value.int (show (fm_put1 (fm_put1 (fm_put1 (fm_put1 M 621 v (nI mr)) 622 v (nI ma)) 623 v mv) 624 v mf).1 625 u = mt from ((p1_other (by decide)).trans ((p1_other (by decide)).trans ((p1_other (by decide)).trans ((p1_other (by decide)).trans (h5))))))) ?_
  refine fm_iast (j := v) (len := 21) (v := mt) hc 0 d_Mo_copyMessage_59 (by decide) (by omega) (by decide) rfl (by omega) (by decide) ?_
  refine fm_aload_n hc d_Mo_copyMessage_60 rfl rfl ?_
  refine fm_getR (k := 43) (q := 626) hc K_Mo d_Mo_copyMessage_61 q_928 rfl (by decide) (by omega) (by decide) (by decide) (by decide) rfl (rp_long1 hR) ?_
  refine fm_iload_n hc d_Mo_copyMessage_64 rfl rfl ?_
  refine fm_aload_n hc d_Mo_copyMessage_65 rfl rfl ?_
  refine fm_getR (k := 43) (q := 626) hc K_Mo d_Mo_copyMessage_66 q_928 rfl (by decide) (by omega) (by decide) (by decide) (by decide) rfl (rp_long1 hR) ?_
  refine fm_iload_n hc d_Mo_copyMessage_69 rfl rfl ?_
  refine fm_iald (j := u) (len := 21) hc 0 d_Mo_copyMessage_70 (by decide) (by omega) (by decide) rfl (by omega) (by decide) ?_
  refine fm_top (congrArg Value.int (show (fm_put1 (fm_put1 (fm_put1 (fm_put1 (fm_put1 M 621 v (nI mr)) 622 v (nI ma)) 623 v mv) 624 v mf) 625 v mt).1 626 u = nI mb.length from ((p1_other (by decide)).trans ((p1_other (by decide)).trans ((p1_other (by decide)).trans ((p1_other (by decide)).trans ((p1_other (by decide)).trans (h6)))))))) ?_
  refine fm_iast (j := v) (len := 21) (v := nI mb.length) hc 0 d_Mo_copyMessage_71 (by decide) (by omega) (by decide) rfl (by omega) (by decide) ?_
  refine fm_iconst (v := nI 0) hc d_Mo_copyMessage_72 rfl ?_
  refine fm_istore_n (lv' := [(3, .int (nI 0)), (0, .ref 586), (1, .int (nI u)), (2, .int (nI v))]) hc d_Mo_copyMessage_73 rfl (by decide) rfl ?_
  have b1 : (fm_put1 (fm_put1 (fm_put1 (fm_put1 (fm_put1 (fm_put1 M 621 v (nI mr)) 622 v (nI ma)) 623 v mv) 624 v mf) 625 v mt) 626 v (nI mb.length)).1 621 v = nI mr := by simp [fm_put1, va_up]
  have b2 : (fm_put1 (fm_put1 (fm_put1 (fm_put1 (fm_put1 (fm_put1 M 621 v (nI mr)) 622 v (nI ma)) 623 v mv) 624 v mf) 625 v mt) 626 v (nI mb.length)).1 622 v = nI ma := by simp [fm_put1, va_up]
  have b3 : (fm_put1 (fm_put1 (fm_put1 (fm_put1 (fm_put1 (fm_put1 M 621 v (nI mr)) 622 v (nI ma)) 623 v mv) 624 v mf) 625 v mt) 626 v (nI mb.length)).1 623 v = mv := by simp [fm_put1, va_up]
  have b4 : (fm_put1 (fm_put1 (fm_put1 (fm_put1 (fm_put1 (fm_put1 M 621 v (nI mr)) 622 v (nI ma)) 623 v mv) 624 v mf) 625 v mt) 626 v (nI mb.length)).1 624 v = mf := by simp [fm_put1, va_up]
  have b5 : (fm_put1 (fm_put1 (fm_put1 (fm_put1 (fm_put1 (fm_put1 M 621 v (nI mr)) 622 v (nI ma)) 623 v mv) 624 v mf) 625 v mt) 626 v (nI mb.length)).1 625 v = mt := by simp [fm_put1, va_up]
  have b6 : (fm_put1 (fm_put1 (fm_put1 (fm_put1 (fm_put1 (fm_put1 M 621 v (nI mr)) 622 v (nI ma)) 623 v mv) 624 v mf) 625 v mt) 626 v (nI mb.length)).1 626 v = nI mb.length := by simp [fm_put1, va_up]
  have b9 : ∀ q j, ¬ (621 ≤ q ∧ q ≤ 626 ∧ j = v) → (fm_put1 (fm_put1 (fm_put1 (fm_put1 (fm_put1 (fm_put1 M 621 v (nI mr)) 622 v (nI ma)) 623 v mv) 624 v mf) 625 v mt) 626 v (nI mb.length)).1 q j = M.1 q j := by
    intro q j a
    by_cases g : j = v
    · rw [p1_other (by omega), p1_other (by omega), p1_other (by omega), p1_other (by omega), p1_other (by omega), p1_other (by omega)]
    · rw [p1_k g, p1_k g, p1_k g, p1_k g, p1_k g, p1_k g]
  refine fm_loopI (N := mb.length) (lv := fun i => [(3, .int (nI i)), (0, .ref 586), (1, .int (nI u)), (2, .int (nI v))]) (I := fun i M' => (∀ c x, c < i → mb[c]? = some x → M'.1 627 (128 * v + c) = nI x) ∧ M'.2 = M.2 ∧ ∀ q j, ¬ (q = 627 ∧ 128 * v ≤ j ∧ j < 128 * v + 128) → M'.1 q j = (fm_put1 (fm_put1 (fm_put1 (fm_put1 (fm_put1 (fm_put1 M 621 v (nI mr)) 622 v (nI ma)) 623 v mv) 624 v mf) 625 v mt) 626 v (nI mb.length)).1 q j) (fun i Mi hi hI ih => ?_) (fun Mi hI => ?_) ⟨fun c x hc => absurd hc (Nat.not_lt_zero c), rfl, fun _ _ _ => rfl⟩
  · obtain ⟨i1, i2, i3⟩ := hI
    have hRi : fm_RP Mi := fun q hq => by rw [i2]; exact hR q hq
    obtain ⟨x0, hx⟩ : ∃ x, mb[i]? = some x := ⟨_, List.getElem?_eq_getElem hi⟩
    have el : Mi.1 626 u = nI mb.length := (i3 _ _ (by omega)).trans ((b9 _ _ (by omega)).trans h6)
    have ei : Mi.1 627 (128 * u + i) = nI x0 := (i3 _ _ (by omega)).trans ((b9 _ _ (by omega)).trans (h8 i x0 hx))
    refine fm_iload_n hc d_Mo_copyMessage_74 rfl rfl ?_
    refine fm_aload_n hc d_Mo_copyMessage_75 rfl rfl ?_
    refine fm_getR (k := 43) (q := 626) hc K_Mo d_Mo_copyMessage_76 q_928 rfl (by decide) (by omega) (by decide) (by decide) (by decide) rfl (rp_long1 hRi) ?_
    refine fm_iload_n hc d_Mo_copyMessage_79 rfl rfl ?_
    refine fm_iald (j := u) (len := 21) hc 0 d_Mo_copyMessage_80 (by decide) (by omega) (by decide) rfl (by omega) (by decide) ?_
    refine fm_top (congrArg Value.int (show Mi.1 626 u = nI mb.length from el)) ?_
    refine fm_icmp_ge (tgt := 114) hc d_Mo_copyMessage_81 rfl (fun gQ => absurd gQ (hnleB (a := mb.length) (c := i) hi (by omega))) (fun _ => ?_)
    refine fm_aload_n hc d_Mo_copyMessage_84 rfl rfl ?_
    refine fm_getR (k := 44) (q := 627) hc K_Mo d_Mo_copyMessage_85 q_929 rfl (by decide) (by omega) (by decide) (by decide) (by decide) rfl (rp_image hRi) ?_
    refine fm_sipush (v := nI 128) hc d_Mo_copyMessage_88 rfl ?_
    refine fm_iload_n hc d_Mo_copyMessage_91 rfl rfl ?_
    refine fm_imul hc d_Mo_copyMessage_92 ?_
    refine fm_top (congrArg Value.int (pk_mul 128 v)) ?_
    refine fm_iload_n hc d_Mo_copyMessage_93 rfl rfl ?_
    refine fm_iadd hc d_Mo_copyMessage_94 ?_
    refine fm_top (congrArg Value.int (nI_add (128 * v) i)) ?_
    refine fm_aload_n hc d_Mo_copyMessage_95 rfl rfl ?_
    refine fm_getR (k := 44) (q := 627) hc K_Mo d_Mo_copyMessage_96 q_929 rfl (by decide) (by omega) (by decide) (by decide) (by decide) rfl (rp_image hRi) ?_
    refine fm_sipush (v := nI 128) hc d_Mo_copyMessage_99 rfl ?_
    refine fm_iload_n hc d_Mo_copyMessage_102 rfl rfl ?_
    refine fm_imul hc d_Mo_copyMessage_103 ?_
    refine fm_top (congrArg Value.int (pk_mul 128 u)) ?_
    refine fm_iload_n hc d_Mo_copyMessage_104 rfl rfl ?_
    refine fm_iadd hc d_Mo_copyMessage_105 ?_
    refine fm_top (congrArg Value.int (nI_add (128 * u) i)) ?_
    refine fm_iald (j := (128 * u) + i) (len := 2688) hc 0 d_Mo_copyMessage_106 (by decide) (by omega) (by decide) rfl (by omega) (by decide) ?_
    refine fm_top (congrArg Value.int (show Mi.1 627 ((128 * u) + i) = nI x0 from ei)) ?_
    refine fm_iast (j := (128 * v) + i) (len := 2688) (v := nI x0) hc 0 d_Mo_copyMessage_107 (by decide) (by omega) (by decide) rfl (by omega) (by decide) ?_
    refine fm_iinc (v := nI (i + 1)) (lv' := [(3, .int (nI (i + 1))), (0, .ref 586), (1, .int (nI u)), (2, .int (nI v))]) hc d_Mo_copyMessage_108 rfl (nI_1 i) (by decide) rfl ?_
    refine fm_goto (tgt := 74) hc d_Mo_copyMessage_111 rfl ?_
    refine fm_dropl (lv' := [(3, .int (nI (i + 1))), (0, .ref 586), (1, .int (nI u)), (2, .int (nI v))]) (by simp) ?_
    refine ih _ ⟨fun c x hc hcx => ?_, i2, fun q j a => ?_⟩
    · by_cases g : c = i
      · subst g
        rw [hx] at hcx
        rw [p1_same, Option.some.inj hcx]
      · rw [p1_at (by omega)]
        exact i1 c x (by omega) hcx
    · by_cases g : q = 627
      · subst g; exact (p1_at (by omega)).trans (i3 _ _ a)
      · exact (p1_other g).trans (i3 _ _ a)
  · obtain ⟨i1, i2, i3⟩ := hI
    have hRi : fm_RP Mi := fun q hq => by rw [i2]; exact hR q hq
    have el : Mi.1 626 u = nI mb.length := (i3 _ _ (by omega)).trans ((b9 _ _ (by omega)).trans h6)
    refine fm_iload_n hc d_Mo_copyMessage_74 rfl rfl ?_
    refine fm_aload_n hc d_Mo_copyMessage_75 rfl rfl ?_
    refine fm_getR (k := 43) (q := 626) hc K_Mo d_Mo_copyMessage_76 q_928 rfl (by decide) (by omega) (by decide) (by decide) (by decide) rfl (rp_long1 hRi) ?_
    refine fm_iload_n hc d_Mo_copyMessage_79 rfl rfl ?_
    refine fm_iald (j := u) (len := 21) hc 0 d_Mo_copyMessage_80 (by decide) (by omega) (by decide) rfl (by omega) (by decide) ?_
    refine fm_top (congrArg Value.int (show Mi.1 626 u = nI mb.length from el)) ?_
    refine fm_icmp_ge (tgt := 114) hc d_Mo_copyMessage_81 rfl (fun _ => ?_) (fun gQ => absurd (nI_le (Nat.le_refl _) (by omega)) gQ)
    exact fm_vret hc hr d_Mo_copyMessage_114 (Nat.le_refl _) (Nat.le_refl _) ⟨rfl, rfl, ⟨(i3 _ _ (by omega)).trans b1, (i3 _ _ (by omega)).trans b2, (i3 _ _ (by omega)).trans b3, (i3 _ _ (by omega)).trans b4, (i3 _ _ (by omega)).trans b5, (i3 _ _ (by omega)).trans b6, h7, fun i x hx => i1 i x (List.getElem?_eq_some_iff.mp hx).1 hx⟩, i2, fun q j a b => (i3 q j b).trans (b9 q j a)⟩
theorem rc_hear {l : Launch} {b : Nat} {x : Nat → Nat} {D : va_G} {dA : Nat → ClassId} {c0 v : Nat} {n : Nat} {M : fm_M} (hn : 629 ≤ n) (hR : fm_RP M) (hcu : M.1 586 45 = nI c0) (hc9 : c0 < 2688) (hv : M.1 627 c0 = nI v) : Met l y_Mo_hear (Cond.code y_Mo_hear b_Mo_hear 1 (some .int) :: fm_T0) ({ frames := 0, cells := 0, slots := 0, locals := 0 }) (fm_Pc fm_lay fm_nf fm_fk fm_cl b x D dA (fm_tys dA) (fm_EX b x) false [.ref 586] n M) (fm_Qc fm_lay fm_nf fm_fk fm_cl b x D dA (fun r n' M' => r = some (.int (nI v)) ∧ n' = n ∧ M' = fm_put1 M 586 45 (nI (c0 + 1)))) 0 0 (fm_A b) := by
  refine fm_enter (by decide) (Nat.le_of_ble_eq_true rfl) ?_
  intro p e s m args below meth c9 hc hr hnm hex htg
  refine fm_aload_n hc d_Mo_hear_0 rfl rfl ?_
  refine fm_dup hc d_Mo_hear_1 rfl ?_
  refine fm_getI (k := 45) hc K_Mo d_Mo_hear_2 q_930 rfl (by decide) (by omega) (by decide) (by decide) (by decide) rfl ?_
  refine fm_top (congrArg Value.int (show M.1 586 45 = nI c0 from hcu)) ?_
  refine fm_iconst (v := nI 1) hc d_Mo_hear_5 rfl ?_
  refine fm_iadd hc d_Mo_hear_6 ?_
  refine fm_top (congrArg Value.int (nI_add c0 1)) ?_
  refine fm_putI (k := 45) (v := nI (c0 + 1)) hc K_Mo d_Mo_hear_7 q_930 rfl (by decide) (by omega) (by decide) (by decide) (by decide) rfl rfl rfl rfl ?_
  refine fm_aload_n hc d_Mo_hear_10 rfl rfl ?_
  refine fm_getR (k := 44) (q := 627) hc K_Mo d_Mo_hear_11 q_929 rfl (by decide) (by omega) (by decide) (by decide) (by decide) rfl (rp_image hR) ?_
  refine fm_aload_n hc d_Mo_hear_14 rfl rfl ?_
  refine fm_getI (k := 45) hc K_Mo d_Mo_hear_15 q_930 rfl (by decide) (by omega) (by decide) (by decide) (by decide) rfl ?_
  refine fm_top (congrArg Value.int (show (fm_put1 M 586 45 (nI (c0 + 1))).1 586 45 = nI (c0 + 1) from (p1_same _ _ _ _))) ?_
  refine fm_iconst (v := nI 1) hc d_Mo_hear_18 rfl ?_
  refine fm_isub hc d_Mo_hear_19 ?_
  refine fm_top (congrArg Value.int (pk_sub (a := c0 + 1) (b := 1) (by omega))) ?_
  refine fm_top (congrArg Value.int (show nI ((c0 + 1) - 1) = nI c0 from (congrArg nI (Nat.add_sub_cancel c0 1)))) ?_
  refine fm_iald (j := c0) (len := 2688) hc 0 d_Mo_hear_20 (by decide) (by omega) (by decide) rfl (by omega) (by decide) ?_
  refine fm_top (congrArg Value.int (show (fm_put1 M 586 45 (nI (c0 + 1))).1 627 c0 = nI v from ((p1_other (by decide)).trans hv))) ?_
  exact fm_iret hc hr d_Mo_hear_21 (Nat.le_refl _) (Nat.le_refl _) ⟨rfl, rfl, rfl⟩
theorem p45_fr {M : fm_M} {v : Int32} : ∀ q j, ¬ (q = 586 ∧ j = 45) → (fm_put1 M 586 45 v).1 q j = M.1 q j := fun q j a => by
  by_cases g : q = 586
  · subst g
    exact p1_at (by omega)
  · exact p1_other g
/-- the bytes of message kk from place c0 on -/
def ir_at (M : fm_M) (kk c0 : Nat) (l : List Nat) : Prop := ∀ i w, l[i]? = some w → M.1 627 (128 * kk + c0 + i) = nI w
theorem irA_of {M M' : fm_M} {kk c0 : Nat} {l : List Nat} (f : ∀ j, M'.1 627 j = M.1 627 j) (h : ir_at M kk c0 l) : ir_at M' kk c0 l := fun i w hw => (f _).trans (h i w hw)
theorem irA_im {M : fm_M} {kk c : Nat} {bs l : List Nat} (h : ir_at M kk 0 bs) (g : im_at bs c l) : ir_at M kk c l := fun i w hw => by
  have := h _ _ (g i w hw)
  rw [Nat.add_assoc]
  exact this
theorem rc_hearV1 {l : Launch} {b : Nat} {x : Nat → Nat} {D : va_G} {dA : Nat → ClassId} {kk c0 n : Nat} {y : Int32} {M : fm_M} (hn : 629 ≤ n) (hR : fm_RP M) (hk : kk < 21) (hc9 : c0 + 5 ≤ 128) (hcu : M.1 586 45 = nI (128 * kk + c0)) (hv : ir_at M kk c0 (im_V (.inl y))) : Met l y_Mo_hearValue (Cond.code y_Mo_hearValue b_Mo_hearValue 3 (some .long) :: fm_T0) ({ frames := 1, cells := 0, slots := 0, locals := 30 }) (fm_Pc fm_lay fm_nf fm_fk fm_cl b x D dA (fm_tys dA) (fm_EX b x) false [.ref 586] n M) (fm_Qc fm_lay fm_nf fm_fk fm_cl b x D dA (fun r n' M' => r = some (.long y.toInt64) ∧ n' = n ∧ M'.1 586 45 = nI (128 * kk + c0 + 5) ∧ M'.2 = M.2 ∧ ∀ q j, ¬ (q = 586 ∧ j = 45) → M'.1 q j = M.1 q j)) 0 0 (fm_A b) := by
  refine fm_enter (by decide) (Nat.le_of_ble_eq_true rfl) ?_
  intro p e s m args below meth c9 hc hr hnm hex htg
  have b0 := hv 0 _ rfl
  have b1 := hv 1 _ rfl
  have b2 := hv 2 _ rfl
  have b3 := hv 3 _ rfl
  have b4 := hv 4 _ rfl
  refine fm_aload_n hc d_Mo_hearValue_0 rfl rfl ?_
  refine fm_callV (av := []) (rest := []) (ob := 586) (ci := 11) (r0 := ("AgentNetModel", F_Mo, 51)) (y := y_Mo_hear) (bytes := b_Mo_hear) hc fm_T0_good (fm_EX_st b x) hex q_1234 q_13 q_1231 q_1233 qs_Mo_hear pd_Mo_hear (by decide) (by omega) (by decide) (by decide) rfl rfl (rc_hear (M := M) (c0 := 128 * kk + c0) (v := 0) hn hR hcu (by omega) (b0)) ⟨rfl, rfl, Nat.le_of_ble_eq_true rfl, Nat.le_of_ble_eq_true rfl⟩ ⟨Nat.le_of_ble_eq_true rfl, Nat.le_of_ble_eq_true rfl⟩ d_Mo_hearValue_1 (Nat.le_of_ble_eq_true rfl) (fun r n2 M2 hp => ?_)
  obtain ⟨rfl, hq1, hq2⟩ := hp
  replace hq1 := hq1.symm
  replace hq2 := hq2.symm
  subst hq1 hq2
  refine fm_cnt (z' := (0, 0)) rfl (fm_st (st' := [.int (nI 0)]) rfl ?_)
  refine fm_iconst (v := nI 1) hc d_Mo_hearValue_4 rfl ?_
  refine fm_icmp_ne (tgt := 18) hc d_Mo_hearValue_5 rfl (fun _ => ?_) (fun gQ => absurd gQ (by decide))
  refine fm_iconst (v := nI 0) hc d_Mo_hearValue_18 rfl ?_
  refine fm_istore_n (lv' := [(1, .int (nI 0)), (0, .ref 586)]) hc d_Mo_hearValue_19 rfl (by decide) rfl ?_
  refine fm_iconst (v := nI 0) hc d_Mo_hearValue_20 rfl ?_
  refine fm_istore_n (lv' := [(2, .int (nI 0)), (1, .int (nI 0)), (0, .ref 586)]) hc d_Mo_hearValue_21 rfl (by decide) rfl ?_
  refine fm_iload_n hc d_Mo_hearValue_22 rfl rfl ?_
  refine fm_iconst (v := nI 4) hc d_Mo_hearValue_23 rfl ?_
  refine fm_icmp_ge (tgt := 43) hc d_Mo_hearValue_24 rfl (fun gQ => absurd gQ (by decide)) (fun _ => ?_)
  refine fm_iload_n hc d_Mo_hearValue_27 rfl rfl ?_
  refine fm_bipush (v := nI 8) hc d_Mo_hearValue_28 rfl ?_
  refine fm_ishl hc d_Mo_hearValue_30 ?_
  refine fm_aload_n hc d_Mo_hearValue_31 rfl rfl ?_
  refine fm_callV (av := []) (rest := [.int ((nI 0) <<< (nI 8 &&& 31))]) (ob := 586) (ci := 11) (r0 := ("AgentNetModel", F_Mo, 51)) (y := y_Mo_hear) (bytes := b_Mo_hear) hc fm_T0_good (fm_EX_st b x) hex q_1234 q_13 q_1231 q_1233 qs_Mo_hear pd_Mo_hear (by decide) (by omega) (by decide) (by decide) rfl rfl (rc_hear (M := fm_put1 M 586 45 (nI (128 * kk + c0 + 1))) (c0 := 128 * kk + c0 + 1) (v := by8 24 y) hn hR (p1_same _ _ _ _) (by omega) ((p45_fr _ _ (by omega)).trans (b1))) ⟨rfl, rfl, Nat.le_of_ble_eq_true rfl, Nat.le_of_ble_eq_true rfl⟩ ⟨Nat.le_of_ble_eq_true rfl, Nat.le_of_ble_eq_true rfl⟩ d_Mo_hearValue_32 (Nat.le_of_ble_eq_true rfl) (fun r n2 M2 hp => ?_)
  obtain ⟨rfl, hq1, hq2⟩ := hp
  replace hq1 := hq1.symm
  replace hq2 := hq2.symm
  subst hq1 hq2
  refine fm_cnt (z' := (0, 0)) rfl (fm_st (st' := [.int (nI (by8 24 y)), .int ((nI 0) <<< (nI 8 &&& 31))]) rfl ?_)
  refine fm_ior hc d_Mo_hearValue_35 ?_
  refine fm_istore_n (lv' := [(1, .int (((nI 0) <<< (nI 8 &&& 31)) ||| (nI (by8 24 y)))), (2, .int (nI 0)), (0, .ref 586)]) hc d_Mo_hearValue_36 rfl (by decide) rfl ?_
  refine fm_iinc (v := nI 1) (lv' := [(2, .int (nI 1)), (1, .int (((nI 0) <<< (nI 8 &&& 31)) ||| (nI (by8 24 y)))), (0, .ref 586)]) hc d_Mo_hearValue_37 rfl (by decide) (by decide) rfl ?_
  refine fm_goto (tgt := 22) hc d_Mo_hearValue_40 rfl ?_
  refine fm_iload_n hc d_Mo_hearValue_22 rfl rfl ?_
  refine fm_iconst (v := nI 4) hc d_Mo_hearValue_23 rfl ?_
  refine fm_icmp_ge (tgt := 43) hc d_Mo_hearValue_24 rfl (fun gQ => absurd gQ (by decide)) (fun _ => ?_)
  refine fm_iload_n hc d_Mo_hearValue_27 rfl rfl ?_
  refine fm_bipush (v := nI 8) hc d_Mo_hearValue_28 rfl ?_
  refine fm_ishl hc d_Mo_hearValue_30 ?_
  refine fm_aload_n hc d_Mo_hearValue_31 rfl rfl ?_
  refine fm_callV (av := []) (rest := [.int ((((nI 0) <<< (nI 8 &&& 31)) ||| (nI (by8 24 y))) <<< (nI 8 &&& 31))]) (ob := 586) (ci := 11) (r0 := ("AgentNetModel", F_Mo, 51)) (y := y_Mo_hear) (bytes := b_Mo_hear) hc fm_T0_good (fm_EX_st b x) hex q_1234 q_13 q_1231 q_1233 qs_Mo_hear pd_Mo_hear (by decide) (by omega) (by decide) (by decide) rfl rfl (rc_hear (M := fm_put1 (fm_put1 M 586 45 (nI (128 * kk + c0 + 1))) 586 45 (nI (128 * kk + c0 + 1 + 1))) (c0 := 128 * kk + c0 + 2) (v := by8 16 y) hn hR (p1_same _ _ _ _) (by omega) ((p45_fr _ _ (by omega)).trans ((p45_fr _ _ (by omega)).trans (b2)))) ⟨rfl, rfl, Nat.le_of_ble_eq_true rfl, Nat.le_of_ble_eq_true rfl⟩ ⟨Nat.le_of_ble_eq_true rfl, Nat.le_of_ble_eq_true rfl⟩ d_Mo_hearValue_32 (Nat.le_of_ble_eq_true rfl) (fun r n2 M2 hp => ?_)
  obtain ⟨rfl, hq1, hq2⟩ := hp
  replace hq1 := hq1.symm
  replace hq2 := hq2.symm
  subst hq1 hq2
  refine fm_cnt (z' := (0, 0)) rfl (fm_st (st' := [.int (nI (by8 16 y)), .int ((((nI 0) <<< (nI 8 &&& 31)) ||| (nI (by8 24 y))) <<< (nI 8 &&& 31))]) rfl ?_)
  refine fm_ior hc d_Mo_hearValue_35 ?_
  refine fm_istore_n (lv' := [(1, .int (((((nI 0) <<< (nI 8 &&& 31)) ||| (nI (by8 24 y))) <<< (nI 8 &&& 31)) ||| (nI (by8 16 y)))), (2, .int (nI 1)), (0, .ref 586)]) hc d_Mo_hearValue_36 rfl (by decide) rfl ?_
  refine fm_iinc (v := nI 2) (lv' := [(2, .int (nI 2)), (1, .int (((((nI 0) <<< (nI 8 &&& 31)) ||| (nI (by8 24 y))) <<< (nI 8 &&& 31)) ||| (nI (by8 16 y)))), (0, .ref 586)]) hc d_Mo_hearValue_37 rfl (by decide) (by decide) rfl ?_
  refine fm_goto (tgt := 22) hc d_Mo_hearValue_40 rfl ?_
  refine fm_iload_n hc d_Mo_hearValue_22 rfl rfl ?_
  refine fm_iconst (v := nI 4) hc d_Mo_hearValue_23 rfl ?_
  refine fm_icmp_ge (tgt := 43) hc d_Mo_hearValue_24 rfl (fun gQ => absurd gQ (by decide)) (fun _ => ?_)
  refine fm_iload_n hc d_Mo_hearValue_27 rfl rfl ?_
  refine fm_bipush (v := nI 8) hc d_Mo_hearValue_28 rfl ?_
  refine fm_ishl hc d_Mo_hearValue_30 ?_
  refine fm_aload_n hc d_Mo_hearValue_31 rfl rfl ?_
  refine fm_callV (av := []) (rest := [.int ((((((nI 0) <<< (nI 8 &&& 31)) ||| (nI (by8 24 y))) <<< (nI 8 &&& 31)) ||| (nI (by8 16 y))) <<< (nI 8 &&& 31))]) (ob := 586) (ci := 11) (r0 := ("AgentNetModel", F_Mo, 51)) (y := y_Mo_hear) (bytes := b_Mo_hear) hc fm_T0_good (fm_EX_st b x) hex q_1234 q_13 q_1231 q_1233 qs_Mo_hear pd_Mo_hear (by decide) (by omega) (by decide) (by decide) rfl rfl (rc_hear (M := fm_put1 (fm_put1 (fm_put1 M 586 45 (nI (128 * kk + c0 + 1))) 586 45 (nI (128 * kk + c0 + 1 + 1))) 586 45 (nI (128 * kk + c0 + 2 + 1))) (c0 := 128 * kk + c0 + 3) (v := by8 8 y) hn hR (p1_same _ _ _ _) (by omega) ((p45_fr _ _ (by omega)).trans ((p45_fr _ _ (by omega)).trans ((p45_fr _ _ (by omega)).trans (b3))))) ⟨rfl, rfl, Nat.le_of_ble_eq_true rfl, Nat.le_of_ble_eq_true rfl⟩ ⟨Nat.le_of_ble_eq_true rfl, Nat.le_of_ble_eq_true rfl⟩ d_Mo_hearValue_32 (Nat.le_of_ble_eq_true rfl) (fun r n2 M2 hp => ?_)
  obtain ⟨rfl, hq1, hq2⟩ := hp
  replace hq1 := hq1.symm
  replace hq2 := hq2.symm
  subst hq1 hq2
  refine fm_cnt (z' := (0, 0)) rfl (fm_st (st' := [.int (nI (by8 8 y)), .int ((((((nI 0) <<< (nI 8 &&& 31)) ||| (nI (by8 24 y))) <<< (nI 8 &&& 31)) ||| (nI (by8 16 y))) <<< (nI 8 &&& 31))]) rfl ?_)
  refine fm_ior hc d_Mo_hearValue_35 ?_
  refine fm_istore_n (lv' := [(1, .int (((((((nI 0) <<< (nI 8 &&& 31)) ||| (nI (by8 24 y))) <<< (nI 8 &&& 31)) ||| (nI (by8 16 y))) <<< (nI 8 &&& 31)) ||| (nI (by8 8 y)))), (2, .int (nI 2)), (0, .ref 586)]) hc d_Mo_hearValue_36 rfl (by decide) rfl ?_
  refine fm_iinc (v := nI 3) (lv' := [(2, .int (nI 3)), (1, .int (((((((nI 0) <<< (nI 8 &&& 31)) ||| (nI (by8 24 y))) <<< (nI 8 &&& 31)) ||| (nI (by8 16 y))) <<< (nI 8 &&& 31)) ||| (nI (by8 8 y)))), (0, .ref 586)]) hc d_Mo_hearValue_37 rfl (by decide) (by decide) rfl ?_
  refine fm_goto (tgt := 22) hc d_Mo_hearValue_40 rfl ?_
  refine fm_iload_n hc d_Mo_hearValue_22 rfl rfl ?_
  refine fm_iconst (v := nI 4) hc d_Mo_hearValue_23 rfl ?_
  refine fm_icmp_ge (tgt := 43) hc d_Mo_hearValue_24 rfl (fun gQ => absurd gQ (by decide)) (fun _ => ?_)
  refine fm_iload_n hc d_Mo_hearValue_27 rfl rfl ?_
  refine fm_bipush (v := nI 8) hc d_Mo_hearValue_28 rfl ?_
  refine fm_ishl hc d_Mo_hearValue_30 ?_
  refine fm_aload_n hc d_Mo_hearValue_31 rfl rfl ?_
  refine fm_callV (av := []) (rest := [.int ((((((((nI 0) <<< (nI 8 &&& 31)) ||| (nI (by8 24 y))) <<< (nI 8 &&& 31)) ||| (nI (by8 16 y))) <<< (nI 8 &&& 31)) ||| (nI (by8 8 y))) <<< (nI 8 &&& 31))]) (ob := 586) (ci := 11) (r0 := ("AgentNetModel", F_Mo, 51)) (y := y_Mo_hear) (bytes := b_Mo_hear) hc fm_T0_good (fm_EX_st b x) hex q_1234 q_13 q_1231 q_1233 qs_Mo_hear pd_Mo_hear (by decide) (by omega) (by decide) (by decide) rfl rfl (rc_hear (M := fm_put1 (fm_put1 (fm_put1 (fm_put1 M 586 45 (nI (128 * kk + c0 + 1))) 586 45 (nI (128 * kk + c0 + 1 + 1))) 586 45 (nI (128 * kk + c0 + 2 + 1))) 586 45 (nI (128 * kk + c0 + 3 + 1))) (c0 := 128 * kk + c0 + 4) (v := by8 0 y) hn hR (p1_same _ _ _ _) (by omega) ((p45_fr _ _ (by omega)).trans ((p45_fr _ _ (by omega)).trans ((p45_fr _ _ (by omega)).trans ((p45_fr _ _ (by omega)).trans (b4)))))) ⟨rfl, rfl, Nat.le_of_ble_eq_true rfl, Nat.le_of_ble_eq_true rfl⟩ ⟨Nat.le_of_ble_eq_true rfl, Nat.le_of_ble_eq_true rfl⟩ d_Mo_hearValue_32 (Nat.le_of_ble_eq_true rfl) (fun r n2 M2 hp => ?_)
  obtain ⟨rfl, hq1, hq2⟩ := hp
  replace hq1 := hq1.symm
  replace hq2 := hq2.symm
  subst hq1 hq2
  refine fm_cnt (z' := (0, 0)) rfl (fm_st (st' := [.int (nI (by8 0 y)), .int ((((((((nI 0) <<< (nI 8 &&& 31)) ||| (nI (by8 24 y))) <<< (nI 8 &&& 31)) ||| (nI (by8 16 y))) <<< (nI 8 &&& 31)) ||| (nI (by8 8 y))) <<< (nI 8 &&& 31))]) rfl ?_)
  refine fm_ior hc d_Mo_hearValue_35 ?_
  refine fm_istore_n (lv' := [(1, .int (((((((((nI 0) <<< (nI 8 &&& 31)) ||| (nI (by8 24 y))) <<< (nI 8 &&& 31)) ||| (nI (by8 16 y))) <<< (nI 8 &&& 31)) ||| (nI (by8 8 y))) <<< (nI 8 &&& 31)) ||| (nI (by8 0 y)))), (2, .int (nI 3)), (0, .ref 586)]) hc d_Mo_hearValue_36 rfl (by decide) rfl ?_
  refine fm_iinc (v := nI 4) (lv' := [(2, .int (nI 4)), (1, .int (((((((((nI 0) <<< (nI 8 &&& 31)) ||| (nI (by8 24 y))) <<< (nI 8 &&& 31)) ||| (nI (by8 16 y))) <<< (nI 8 &&& 31)) ||| (nI (by8 8 y))) <<< (nI 8 &&& 31)) ||| (nI (by8 0 y)))), (0, .ref 586)]) hc d_Mo_hearValue_37 rfl (by decide) (by decide) rfl ?_
  refine fm_goto (tgt := 22) hc d_Mo_hearValue_40 rfl ?_
  refine fm_iload_n hc d_Mo_hearValue_22 rfl rfl ?_
  refine fm_iconst (v := nI 4) hc d_Mo_hearValue_23 rfl ?_
  refine fm_icmp_ge (tgt := 43) hc d_Mo_hearValue_24 rfl (fun _ => ?_) (fun gQ => absurd (by decide) gQ)
  refine fm_iload_n hc d_Mo_hearValue_43 rfl rfl ?_
  refine fm_top (congrArg Value.int (show ((((((((nI 0) <<< (nI 8 &&& 31)) ||| (nI (by8 24 y))) <<< (nI 8 &&& 31)) ||| (nI (by8 16 y))) <<< (nI 8 &&& 31)) ||| (nI (by8 8 y))) <<< (nI 8 &&& 31)) ||| (nI (by8 0 y)) = y from (by8_v y))) ?_
  refine fm_i2l hc d_Mo_hearValue_44 ?_
  exact fm_lret hc hr d_Mo_hearValue_45 (Nat.le_refl _) (Nat.le_refl _) ⟨rfl, rfl, p1_same _ _ _ _, rfl, fun q j a => (p45_fr q j a).trans ((p45_fr q j a).trans ((p45_fr q j a).trans ((p45_fr q j a).trans (p45_fr q j a))))⟩
theorem rc_hearV2 {l : Launch} {b : Nat} {x : Nat → Nat} {D : va_G} {dA : Nat → ClassId} {kk c0 k n : Nat} {M : fm_M} (hn : 629 ≤ n) (hR : fm_RP M) (hk : kk < 21) (hc9 : c0 + 5 ≤ 128) (hcu : M.1 586 45 = nI (128 * kk + c0)) (hv : ir_at M kk c0 (im_V (.inr k))) : Met l y_Mo_hearValue (Cond.code y_Mo_hearValue b_Mo_hearValue 3 (some .long) :: fm_T0) ({ frames := 1, cells := 0, slots := 0, locals := 30 }) (fm_Pc fm_lay fm_nf fm_fk fm_cl b x D dA (fm_tys dA) (fm_EX b x) false [.ref 586] n M) (fm_Qc fm_lay fm_nf fm_fk fm_cl b x D dA (fun r n' M' => r = some (.long (1099511627776 + (nI k).toInt64)) ∧ n' = n ∧ M'.1 586 45 = nI (128 * kk + c0 + 2) ∧ M'.2 = M.2 ∧ ∀ q j, ¬ (q = 586 ∧ j = 45) → M'.1 q j = M.1 q j)) 0 0 (fm_A b) := by
  refine fm_enter (by decide) (Nat.le_of_ble_eq_true rfl) ?_
  intro p e s m args below meth c9 hc hr hnm hex htg
  have b0 := hv 0 _ rfl
  have b1 := hv 1 _ rfl
  refine fm_aload_n hc d_Mo_hearValue_0 rfl rfl ?_
  refine fm_callV (av := []) (rest := []) (ob := 586) (ci := 11) (r0 := ("AgentNetModel", F_Mo, 51)) (y := y_Mo_hear) (bytes := b_Mo_hear) hc fm_T0_good (fm_EX_st b x) hex q_1234 q_13 q_1231 q_1233 qs_Mo_hear pd_Mo_hear (by decide) (by omega) (by decide) (by decide) rfl rfl (rc_hear (M := M) (c0 := 128 * kk + c0) (v := 1) hn hR hcu (by omega) (b0)) ⟨rfl, rfl, Nat.le_of_ble_eq_true rfl, Nat.le_of_ble_eq_true rfl⟩ ⟨Nat.le_of_ble_eq_true rfl, Nat.le_of_ble_eq_true rfl⟩ d_Mo_hearValue_1 (Nat.le_of_ble_eq_true rfl) (fun r n2 M2 hp => ?_)
  obtain ⟨rfl, hq1, hq2⟩ := hp
  replace hq1 := hq1.symm
  replace hq2 := hq2.symm
  subst hq1 hq2
  refine fm_cnt (z' := (0, 0)) rfl (fm_st (st' := [.int (nI 1)]) rfl ?_)
  refine fm_iconst (v := nI 1) hc d_Mo_hearValue_4 rfl ?_
  refine fm_icmp_ne (tgt := 18) hc d_Mo_hearValue_5 rfl (fun gQ => absurd (by decide) gQ) (fun _ => ?_)
  refine fm_ldc2 (v := 1099511627776) hc d_Mo_hearValue_8 q_1098 ?_
  refine fm_aload_n hc d_Mo_hearValue_11 rfl rfl ?_
  refine fm_callV (av := []) (rest := [.long 1099511627776]) (ob := 586) (ci := 11) (r0 := ("AgentNetModel", F_Mo, 51)) (y := y_Mo_hear) (bytes := b_Mo_hear) hc fm_T0_good (fm_EX_st b x) hex q_1234 q_13 q_1231 q_1233 qs_Mo_hear pd_Mo_hear (by decide) (by omega) (by decide) (by decide) rfl rfl (rc_hear (M := fm_put1 M 586 45 (nI (128 * kk + c0 + 1))) (c0 := 128 * kk + c0 + 1) (v := k) hn hR (p1_same _ _ _ _) (by omega) ((p45_fr _ _ (by omega)).trans (b1))) ⟨rfl, rfl, Nat.le_of_ble_eq_true rfl, Nat.le_of_ble_eq_true rfl⟩ ⟨Nat.le_of_ble_eq_true rfl, Nat.le_of_ble_eq_true rfl⟩ d_Mo_hearValue_12 (Nat.le_of_ble_eq_true rfl) (fun r n2 M2 hp => ?_)
  obtain ⟨rfl, hq1, hq2⟩ := hp
  replace hq1 := hq1.symm
  replace hq2 := hq2.symm
  subst hq1 hq2
  refine fm_cnt (z' := (0, 0)) rfl (fm_st (st' := [.int (nI k), .long 1099511627776]) rfl ?_)
  refine fm_i2l hc d_Mo_hearValue_15 ?_
  refine fm_ladd hc d_Mo_hearValue_16 ?_
  exact fm_lret hc hr d_Mo_hearValue_17 (Nat.le_refl _) (Nat.le_refl _) ⟨rfl, rfl, p1_same _ _ _ _, rfl, fun q j a => (p45_fr q j a).trans (p45_fr q j a)⟩
theorem rc_hearV {l : Launch} {b : Nat} {x : Nat → Nat} {D : va_G} {dA : Nat → ClassId} {kk c0 n : Nat} {v : bf_V} {M : fm_M} (hn : 629 ≤ n) (hR : fm_RP M) (hk : kk < 21) (hc9 : c0 + 5 ≤ 128) (hcu : M.1 586 45 = nI (128 * kk + c0)) (hv : ir_at M kk c0 (im_V v)) : Met l y_Mo_hearValue (Cond.code y_Mo_hearValue b_Mo_hearValue 3 (some .long) :: fm_T0) ({ frames := 1, cells := 0, slots := 0, locals := 30 }) (fm_Pc fm_lay fm_nf fm_fk fm_cl b x D dA (fm_tys dA) (fm_EX b x) false [.ref 586] n M) (fm_Qc fm_lay fm_nf fm_fk fm_cl b x D dA (fun r n' M' => r = some (.long (e64 v)) ∧ n' = n ∧ M'.1 586 45 = nI (128 * kk + c0 + (im_V v).length) ∧ M'.2 = M.2 ∧ ∀ q j, ¬ (q = 586 ∧ j = 45) → M'.1 q j = M.1 q j)) 0 0 (fm_A b) := by
  cases v with
  | inl y => exact rc_hearV1 hn hR hk hc9 hcu hv
  | inr k => exact rc_hearV2 hn hR hk hc9 hcu hv
theorem map_idf (v : bf_V) : bf_map (fun k => k) v = v := by cases v <;> rfl
theorem rc_unpack {l : Launch} {b : Nat} {x : Nat → Nat} {D : va_G} {dA : Nat → ClassId} {kk gi a n : Nat} {A : ag_T} {M : fm_M} (hn : 629 ≤ n) (hR : fm_RP M) (hk : kk < 21) (hg9 : gi < 96) (ha8 : a < 8) (hi : ir_at M kk 0 (im_B A)) (hw : ag_wf a A) : Met l y_Mo_unpack (Cond.code y_Mo_unpack b_Mo_unpack 5 none :: fm_T0) ({ frames := 2, cells := 0, slots := 0, locals := 60 }) (fm_Pc fm_lay fm_nf fm_fk fm_cl b x D dA (fm_tys dA) (fm_EX b x) false [.ref 586, .int (nI kk), .int (nI gi)] n M) (fm_Qc fm_lay fm_nf fm_fk fm_cl b x D dA (fun r n' M' => r = none ∧ n' = n ∧ hr_G M' gi F_m A (fun k => k) ∧ M'.2.2 = M.2.2 ∧ (∀ q j, ¬ (605 ≤ q ∧ q ≤ 614 ∧ j = gi) → ¬ (q = 586 ∧ j = 45) → M'.1 q j = M.1 q j) ∧ (∀ q j, ¬ (q = 613 ∧ 6 * gi ≤ j ∧ j < 6 * gi + 6) → ¬ ((q = 615 ∨ q = 616) ∧ 9 * gi ≤ j ∧ j < 9 * gi + 9) → M'.2.1 q j = M.2.1 q j))) 0 0 (fm_A b) := by
  refine fm_enter (by decide) (Nat.le_of_ble_eq_true rfl) ?_
  intro p e s m args below meth c9 hc hr hnm hex htg
  have ok := hw.1
  have ok1 := ok.1
  have ok2 := ok.2.1
  have w3 : A.1 4 + A.1 3 ≤ 200 := hw.2.2.2.2.2.1
  have w7 : A.1 7 ≤ 1 := hw.2.2.2.2.2.2.2.2
  have hat : im_at (im_B A) 0 (im_B A) := imA_self _
  have hH : im_at (im_B A) 0 (im_H A.1 A.2.1.length) := imA_left hat
  have hS := imA_left (imA_right hat)
  have hQ1 := imA_left (imA_right (imA_right hat))
  have hQ2 := imA_right (imA_right (imA_right hat))
  have l10 : (im_H A.1 A.2.1.length).length = 10 := rfl
  rw [l10, Nat.zero_add] at hS hQ1 hQ2
  have sS := fl_len imV_len A.2.1
  have sP := fl_len imP_len A.2.2
  generalize hbs : im_B A = bs at hi hat hH hS hQ1 hQ2
  have b1 := irA_im hi hH 1 _ rfl
  have b2 := irA_im hi hH 2 _ rfl
  have b3 := irA_im hi hH 3 _ rfl
  have b4 := irA_im hi hH 4 _ rfl
  have b5 := irA_im hi hH 5 _ rfl
  have b6 := irA_im hi hH 6 _ rfl
  have b7 := irA_im hi hH 7 _ rfl
  have b8 := irA_im hi hH 8 _ rfl
  have b9 := irA_im hi hH 9 _ rfl
  simp only [Nat.add_zero] at b1 b2 b3 b4 b5 b6 b7 b8 b9
  refine fm_aload_n hc d_Mo_unpack_0 rfl rfl ?_
  refine fm_sipush (v := nI 128) hc d_Mo_unpack_1 rfl ?_
  refine fm_iload_n hc d_Mo_unpack_4 rfl rfl ?_
  refine fm_imul hc d_Mo_unpack_5 ?_
  refine fm_top (congrArg Value.int (pk_mul 128 kk)) ?_
  refine fm_iconst (v := nI 1) hc d_Mo_unpack_6 rfl ?_
  refine fm_iadd hc d_Mo_unpack_7 ?_
  refine fm_top (congrArg Value.int (nI_add (128 * kk) 1)) ?_
  refine fm_putI (k := 45) (v := nI ((128 * kk) + 1)) hc K_Mo d_Mo_unpack_8 q_930 rfl (by decide) (by omega) (by decide) (by decide) (by decide) rfl rfl rfl rfl ?_
  refine fm_mem (M' := fm_put1 M 586 45 (nI (128 * kk + 1))) rfl rfl ?_
  refine fm_aload_n hc d_Mo_unpack_11 rfl rfl ?_
  refine fm_getR (k := 20) (q := 605) hc K_Mo d_Mo_unpack_12 q_905 rfl (by decide) (by omega) (by decide) (by decide) (by decide) rfl (rp_program hR) ?_
  refine fm_iload_n hc d_Mo_unpack_15 rfl rfl ?_
  refine fm_aload_n hc d_Mo_unpack_16 rfl rfl ?_
  refine fm_callV (av := []) (rest := [.int (nI gi), .ref 605]) (ob := 586) (ci := 11) (r0 := ("AgentNetModel", F_Mo, 51)) (y := y_Mo_hear) (bytes := b_Mo_hear) hc fm_T0_good (fm_EX_st b x) hex q_1234 q_13 q_1231 q_1233 qs_Mo_hear pd_Mo_hear (by decide) (by omega) (by decide) (by decide) rfl rfl (rc_hear (M := fm_put1 M 586 45 (nI (128 * kk + 1))) (c0 := 128 * kk + 1) (v := A.1 1) hn hR (p1_same _ _ _ _) (by omega) ((p45_fr _ _ (by omega)).trans (b1))) ⟨rfl, rfl, Nat.le_of_ble_eq_true rfl, Nat.le_of_ble_eq_true rfl⟩ ⟨Nat.le_of_ble_eq_true rfl, Nat.le_of_ble_eq_true rfl⟩ d_Mo_unpack_17 (Nat.le_of_ble_eq_true rfl) (fun r n2 M2 hp => ?_)
  obtain ⟨rfl, hq1, hq2⟩ := hp
  replace hq1 := hq1.symm
  replace hq2 := hq2.symm
  subst hq1 hq2
  refine fm_cnt (z' := (0, 0)) rfl (fm_st (st' := [.int (nI (A.1 1)), .int (nI gi), .ref 605]) rfl ?_)
  refine fm_iast (j := gi) (len := 98) (v := nI (A.1 1)) hc 0 d_Mo_unpack_20 (by decide) (by omega) (by decide) rfl (by omega) (by decide) ?_
  refine fm_nm (fun Q1 eQ1 => ?_)
  have iQ1 : ∀ j, Q1.1 627 j = M.1 627 j := fun j => by rw [eQ1]; exact (p1_other (by decide)).trans ((p45_fr _ _ (by omega)).trans ((p45_fr _ _ (by omega)).trans (rfl)))
  have cQ1 : Q1.1 586 45 = nI (128 * kk + 1 + 1) := by rw [eQ1]; exact (p1_other (by decide)).trans (p1_same _ _ _ _)
  have sQ1 : Q1.2 = M.2 := by rw [eQ1]; exact rfl
  have fQ1 : ∀ q j, ¬ (605 ≤ q ∧ q ≤ 614 ∧ j = gi) → ¬ (q = 586 ∧ j = 45) → Q1.1 q j = M.1 q j := fun q j a b => by
    have e1 : (fm_put1 (fm_put1 (fm_put1 M 586 45 (nI (128 * kk + 1))) 586 45 (nI (128 * kk + 1 + 1))) 605 gi (nI (A.1 1))).1 q j = (fm_put1 (fm_put1 M 586 45 (nI (128 * kk + 1))) 586 45 (nI (128 * kk + 1 + 1))).1 q j := by
      by_cases g : q = 605
      · subst g; exact p1_at (by omega)
      · exact p1_other g
    rw [eQ1]
    exact e1.trans ((p45_fr q j b).trans ((p45_fr q j b).trans (rfl)))
  have nQ1_1 : Q1.1 605 gi = nI (A.1 1) := by rw [eQ1]; exact p1_same _ _ _ _
  clear eQ1
  have hRQ1 : fm_RP Q1 := fun q hq => by rw [sQ1]; exact hR q hq
  refine fm_aload_n hc d_Mo_unpack_21 rfl rfl ?_
  refine fm_getR (k := 21) (q := 606) hc K_Mo d_Mo_unpack_22 q_906 rfl (by decide) (by omega) (by decide) (by decide) (by decide) rfl (rp_place hRQ1) ?_
  refine fm_iload_n hc d_Mo_unpack_25 rfl rfl ?_
  refine fm_aload_n hc d_Mo_unpack_26 rfl rfl ?_
  refine fm_callV (av := []) (rest := [.int (nI gi), .ref 606]) (ob := 586) (ci := 11) (r0 := ("AgentNetModel", F_Mo, 51)) (y := y_Mo_hear) (bytes := b_Mo_hear) hc fm_T0_good (fm_EX_st b x) hex q_1234 q_13 q_1231 q_1233 qs_Mo_hear pd_Mo_hear (by decide) (by omega) (by decide) (by decide) rfl rfl (rc_hear (M := Q1) (c0 := 128 * kk + 1 + 1) (v := A.1 2) hn hRQ1 cQ1 (by omega) ((iQ1 _).trans b2)) ⟨rfl, rfl, Nat.le_of_ble_eq_true rfl, Nat.le_of_ble_eq_true rfl⟩ ⟨Nat.le_of_ble_eq_true rfl, Nat.le_of_ble_eq_true rfl⟩ d_Mo_unpack_27 (Nat.le_of_ble_eq_true rfl) (fun r n2 M2 hp => ?_)
  obtain ⟨rfl, hq1, hq2⟩ := hp
  replace hq1 := hq1.symm
  replace hq2 := hq2.symm
  subst hq1 hq2
  refine fm_cnt (z' := (0, 0)) rfl (fm_st (st' := [.int (nI (A.1 2)), .int (nI gi), .ref 606]) rfl ?_)
  refine fm_iast (j := gi) (len := 98) (v := nI (A.1 2)) hc 0 d_Mo_unpack_30 (by decide) (by omega) (by decide) rfl (by omega) (by decide) ?_
  refine fm_nm (fun Q2 eQ2 => ?_)
  have iQ2 : ∀ j, Q2.1 627 j = M.1 627 j := fun j => by rw [eQ2]; exact (p1_other (by decide)).trans ((p45_fr _ _ (by omega)).trans (iQ1 j))
  have cQ2 : Q2.1 586 45 = nI (128 * kk + 1 + 1 + 1) := by rw [eQ2]; exact (p1_other (by decide)).trans (p1_same _ _ _ _)
  have sQ2 : Q2.2 = M.2 := by rw [eQ2]; exact sQ1
  have fQ2 : ∀ q j, ¬ (605 ≤ q ∧ q ≤ 614 ∧ j = gi) → ¬ (q = 586 ∧ j = 45) → Q2.1 q j = M.1 q j := fun q j a b => by
    have e1 : (fm_put1 (fm_put1 Q1 586 45 (nI (128 * kk + 1 + 1 + 1))) 606 gi (nI (A.1 2))).1 q j = (fm_put1 Q1 586 45 (nI (128 * kk + 1 + 1 + 1))).1 q j := by
      by_cases g : q = 606
      · subst g; exact p1_at (by omega)
      · exact p1_other g
    rw [eQ2]
    exact e1.trans ((p45_fr q j b).trans (fQ1 q j a b))
  have nQ2_1 : Q2.1 605 gi = nI (A.1 1) := by rw [eQ2]; exact (p1_other (by decide)).trans ((p45_fr _ _ (by omega)).trans (nQ1_1))
  have nQ2_2 : Q2.1 606 gi = nI (A.1 2) := by rw [eQ2]; exact p1_same _ _ _ _
  clear eQ2
  have hRQ2 : fm_RP Q2 := fun q hq => by rw [sQ2]; exact hR q hq
  refine fm_aload_n hc d_Mo_unpack_31 rfl rfl ?_
  refine fm_getR (k := 23) (q := 608) hc K_Mo d_Mo_unpack_32 q_908 rfl (by decide) (by omega) (by decide) (by decide) (by decide) rfl (rp_hops hRQ2) ?_
  refine fm_iload_n hc d_Mo_unpack_35 rfl rfl ?_
  refine fm_aload_n hc d_Mo_unpack_36 rfl rfl ?_
  refine fm_callV (av := []) (rest := [.int (nI gi), .ref 608]) (ob := 586) (ci := 11) (r0 := ("AgentNetModel", F_Mo, 51)) (y := y_Mo_hear) (bytes := b_Mo_hear) hc fm_T0_good (fm_EX_st b x) hex q_1234 q_13 q_1231 q_1233 qs_Mo_hear pd_Mo_hear (by decide) (by omega) (by decide) (by decide) rfl rfl (rc_hear (M := Q2) (c0 := 128 * kk + 1 + 1 + 1) (v := A.1 4) hn hRQ2 cQ2 (by omega) ((iQ2 _).trans b3)) ⟨rfl, rfl, Nat.le_of_ble_eq_true rfl, Nat.le_of_ble_eq_true rfl⟩ ⟨Nat.le_of_ble_eq_true rfl, Nat.le_of_ble_eq_true rfl⟩ d_Mo_unpack_37 (Nat.le_of_ble_eq_true rfl) (fun r n2 M2 hp => ?_)
  obtain ⟨rfl, hq1, hq2⟩ := hp
  replace hq1 := hq1.symm
  replace hq2 := hq2.symm
  subst hq1 hq2
  refine fm_cnt (z' := (0, 0)) rfl (fm_st (st' := [.int (nI (A.1 4)), .int (nI gi), .ref 608]) rfl ?_)
  refine fm_iast (j := gi) (len := 98) (v := nI (A.1 4)) hc 0 d_Mo_unpack_40 (by decide) (by omega) (by decide) rfl (by omega) (by decide) ?_
  refine fm_nm (fun Q3 eQ3 => ?_)
  have iQ3 : ∀ j, Q3.1 627 j = M.1 627 j := fun j => by rw [eQ3]; exact (p1_other (by decide)).trans ((p45_fr _ _ (by omega)).trans (iQ2 j))
  have cQ3 : Q3.1 586 45 = nI (128 * kk + 1 + 1 + 1 + 1) := by rw [eQ3]; exact (p1_other (by decide)).trans (p1_same _ _ _ _)
  have sQ3 : Q3.2 = M.2 := by rw [eQ3]; exact sQ2
  have fQ3 : ∀ q j, ¬ (605 ≤ q ∧ q ≤ 614 ∧ j = gi) → ¬ (q = 586 ∧ j = 45) → Q3.1 q j = M.1 q j := fun q j a b => by
    have e1 : (fm_put1 (fm_put1 Q2 586 45 (nI (128 * kk + 1 + 1 + 1 + 1))) 608 gi (nI (A.1 4))).1 q j = (fm_put1 Q2 586 45 (nI (128 * kk + 1 + 1 + 1 + 1))).1 q j := by
      by_cases g : q = 608
      · subst g; exact p1_at (by omega)
      · exact p1_other g
    rw [eQ3]
    exact e1.trans ((p45_fr q j b).trans (fQ2 q j a b))
  have nQ3_1 : Q3.1 605 gi = nI (A.1 1) := by rw [eQ3]; exact (p1_other (by decide)).trans ((p45_fr _ _ (by omega)).trans (nQ2_1))
  have nQ3_2 : Q3.1 606 gi = nI (A.1 2) := by rw [eQ3]; exact (p1_other (by decide)).trans ((p45_fr _ _ (by omega)).trans (nQ2_2))
  have nQ3_4 : Q3.1 608 gi = nI (A.1 4) := by rw [eQ3]; exact p1_same _ _ _ _
  clear eQ3
  have hRQ3 : fm_RP Q3 := fun q hq => by rw [sQ3]; exact hR q hq
  refine fm_aload_n hc d_Mo_unpack_41 rfl rfl ?_
  refine fm_getR (k := 24) (q := 609) hc K_Mo d_Mo_unpack_42 q_909 rfl (by decide) (by omega) (by decide) (by decide) (by decide) rfl (rp_said hRQ3) ?_
  refine fm_iload_n hc d_Mo_unpack_45 rfl rfl ?_
  refine fm_aload_n hc d_Mo_unpack_46 rfl rfl ?_
  refine fm_callV (av := []) (rest := [.int (nI gi), .ref 609]) (ob := 586) (ci := 11) (r0 := ("AgentNetModel", F_Mo, 51)) (y := y_Mo_hear) (bytes := b_Mo_hear) hc fm_T0_good (fm_EX_st b x) hex q_1234 q_13 q_1231 q_1233 qs_Mo_hear pd_Mo_hear (by decide) (by omega) (by decide) (by decide) rfl rfl (rc_hear (M := Q3) (c0 := 128 * kk + 1 + 1 + 1 + 1) (v := A.1 5) hn hRQ3 cQ3 (by omega) ((iQ3 _).trans b4)) ⟨rfl, rfl, Nat.le_of_ble_eq_true rfl, Nat.le_of_ble_eq_true rfl⟩ ⟨Nat.le_of_ble_eq_true rfl, Nat.le_of_ble_eq_true rfl⟩ d_Mo_unpack_47 (Nat.le_of_ble_eq_true rfl) (fun r n2 M2 hp => ?_)
  obtain ⟨rfl, hq1, hq2⟩ := hp
  replace hq1 := hq1.symm
  replace hq2 := hq2.symm
  subst hq1 hq2
  refine fm_cnt (z' := (0, 0)) rfl (fm_st (st' := [.int (nI (A.1 5)), .int (nI gi), .ref 609]) rfl ?_)
  refine fm_iast (j := gi) (len := 98) (v := nI (A.1 5)) hc 0 d_Mo_unpack_50 (by decide) (by omega) (by decide) rfl (by omega) (by decide) ?_
  refine fm_nm (fun Q4 eQ4 => ?_)
  have iQ4 : ∀ j, Q4.1 627 j = M.1 627 j := fun j => by rw [eQ4]; exact (p1_other (by decide)).trans ((p45_fr _ _ (by omega)).trans (iQ3 j))
  have cQ4 : Q4.1 586 45 = nI (128 * kk + 1 + 1 + 1 + 1 + 1) := by rw [eQ4]; exact (p1_other (by decide)).trans (p1_same _ _ _ _)
  have sQ4 : Q4.2 = M.2 := by rw [eQ4]; exact sQ3
  have fQ4 : ∀ q j, ¬ (605 ≤ q ∧ q ≤ 614 ∧ j = gi) → ¬ (q = 586 ∧ j = 45) → Q4.1 q j = M.1 q j := fun q j a b => by
    have e1 : (fm_put1 (fm_put1 Q3 586 45 (nI (128 * kk + 1 + 1 + 1 + 1 + 1))) 609 gi (nI (A.1 5))).1 q j = (fm_put1 Q3 586 45 (nI (128 * kk + 1 + 1 + 1 + 1 + 1))).1 q j := by
      by_cases g : q = 609
      · subst g; exact p1_at (by omega)
      · exact p1_other g
    rw [eQ4]
    exact e1.trans ((p45_fr q j b).trans (fQ3 q j a b))
  have nQ4_1 : Q4.1 605 gi = nI (A.1 1) := by rw [eQ4]; exact (p1_other (by decide)).trans ((p45_fr _ _ (by omega)).trans (nQ3_1))
  have nQ4_2 : Q4.1 606 gi = nI (A.1 2) := by rw [eQ4]; exact (p1_other (by decide)).trans ((p45_fr _ _ (by omega)).trans (nQ3_2))
  have nQ4_4 : Q4.1 608 gi = nI (A.1 4) := by rw [eQ4]; exact (p1_other (by decide)).trans ((p45_fr _ _ (by omega)).trans (nQ3_4))
  have nQ4_5 : Q4.1 609 gi = nI (A.1 5) := by rw [eQ4]; exact p1_same _ _ _ _
  clear eQ4
  have hRQ4 : fm_RP Q4 := fun q hq => by rw [sQ4]; exact hR q hq
  refine fm_aload_n hc d_Mo_unpack_51 rfl rfl ?_
  refine fm_getR (k := 25) (q := 610) hc K_Mo d_Mo_unpack_52 q_910 rfl (by decide) (by omega) (by decide) (by decide) (by decide) rfl (rp_wait hRQ4) ?_
  refine fm_iload_n hc d_Mo_unpack_55 rfl rfl ?_
  refine fm_aload_n hc d_Mo_unpack_56 rfl rfl ?_
  refine fm_callV (av := []) (rest := [.int (nI gi), .ref 610]) (ob := 586) (ci := 11) (r0 := ("AgentNetModel", F_Mo, 51)) (y := y_Mo_hear) (bytes := b_Mo_hear) hc fm_T0_good (fm_EX_st b x) hex q_1234 q_13 q_1231 q_1233 qs_Mo_hear pd_Mo_hear (by decide) (by omega) (by decide) (by decide) rfl rfl (rc_hear (M := Q4) (c0 := 128 * kk + 1 + 1 + 1 + 1 + 1) (v := A.1 6) hn hRQ4 cQ4 (by omega) ((iQ4 _).trans b5)) ⟨rfl, rfl, Nat.le_of_ble_eq_true rfl, Nat.le_of_ble_eq_true rfl⟩ ⟨Nat.le_of_ble_eq_true rfl, Nat.le_of_ble_eq_true rfl⟩ d_Mo_unpack_57 (Nat.le_of_ble_eq_true rfl) (fun r n2 M2 hp => ?_)
  obtain ⟨rfl, hq1, hq2⟩ := hp
  replace hq1 := hq1.symm
  replace hq2 := hq2.symm
  subst hq1 hq2
  refine fm_cnt (z' := (0, 0)) rfl (fm_st (st' := [.int (nI (A.1 6)), .int (nI gi), .ref 610]) rfl ?_)
  refine fm_iast (j := gi) (len := 98) (v := nI (A.1 6)) hc 0 d_Mo_unpack_60 (by decide) (by omega) (by decide) rfl (by omega) (by decide) ?_
  refine fm_nm (fun Q5 eQ5 => ?_)
  have iQ5 : ∀ j, Q5.1 627 j = M.1 627 j := fun j => by rw [eQ5]; exact (p1_other (by decide)).trans ((p45_fr _ _ (by omega)).trans (iQ4 j))
  have cQ5 : Q5.1 586 45 = nI (128 * kk + 1 + 1 + 1 + 1 + 1 + 1) := by rw [eQ5]; exact (p1_other (by decide)).trans (p1_same _ _ _ _)
  have sQ5 : Q5.2 = M.2 := by rw [eQ5]; exact sQ4
  have fQ5 : ∀ q j, ¬ (605 ≤ q ∧ q ≤ 614 ∧ j = gi) → ¬ (q = 586 ∧ j = 45) → Q5.1 q j = M.1 q j := fun q j a b => by
    have e1 : (fm_put1 (fm_put1 Q4 586 45 (nI (128 * kk + 1 + 1 + 1 + 1 + 1 + 1))) 610 gi (nI (A.1 6))).1 q j = (fm_put1 Q4 586 45 (nI (128 * kk + 1 + 1 + 1 + 1 + 1 + 1))).1 q j := by
      by_cases g : q = 610
      · subst g; exact p1_at (by omega)
      · exact p1_other g
    rw [eQ5]
    exact e1.trans ((p45_fr q j b).trans (fQ4 q j a b))
  have nQ5_1 : Q5.1 605 gi = nI (A.1 1) := by rw [eQ5]; exact (p1_other (by decide)).trans ((p45_fr _ _ (by omega)).trans (nQ4_1))
  have nQ5_2 : Q5.1 606 gi = nI (A.1 2) := by rw [eQ5]; exact (p1_other (by decide)).trans ((p45_fr _ _ (by omega)).trans (nQ4_2))
  have nQ5_4 : Q5.1 608 gi = nI (A.1 4) := by rw [eQ5]; exact (p1_other (by decide)).trans ((p45_fr _ _ (by omega)).trans (nQ4_4))
  have nQ5_5 : Q5.1 609 gi = nI (A.1 5) := by rw [eQ5]; exact (p1_other (by decide)).trans ((p45_fr _ _ (by omega)).trans (nQ4_5))
  have nQ5_6 : Q5.1 610 gi = nI (A.1 6) := by rw [eQ5]; exact p1_same _ _ _ _
  clear eQ5
  have hRQ5 : fm_RP Q5 := fun q hq => by rw [sQ5]; exact hR q hq
  refine fm_aload_n hc d_Mo_unpack_61 rfl rfl ?_
  refine fm_getR (k := 26) (q := 611) hc K_Mo d_Mo_unpack_62 q_911 rfl (by decide) (by omega) (by decide) (by decide) (by decide) rfl (rp_cloned hRQ5) ?_
  refine fm_iload_n hc d_Mo_unpack_65 rfl rfl ?_
  refine fm_aload_n hc d_Mo_unpack_66 rfl rfl ?_
  refine fm_callV (av := []) (rest := [.int (nI gi), .ref 611]) (ob := 586) (ci := 11) (r0 := ("AgentNetModel", F_Mo, 51)) (y := y_Mo_hear) (bytes := b_Mo_hear) hc fm_T0_good (fm_EX_st b x) hex q_1234 q_13 q_1231 q_1233 qs_Mo_hear pd_Mo_hear (by decide) (by omega) (by decide) (by decide) rfl rfl (rc_hear (M := Q5) (c0 := 128 * kk + 1 + 1 + 1 + 1 + 1 + 1) (v := A.1 7) hn hRQ5 cQ5 (by omega) ((iQ5 _).trans b6)) ⟨rfl, rfl, Nat.le_of_ble_eq_true rfl, Nat.le_of_ble_eq_true rfl⟩ ⟨Nat.le_of_ble_eq_true rfl, Nat.le_of_ble_eq_true rfl⟩ d_Mo_unpack_67 (Nat.le_of_ble_eq_true rfl) (fun r n2 M2 hp => ?_)
  obtain ⟨rfl, hq1, hq2⟩ := hp
  replace hq1 := hq1.symm
  replace hq2 := hq2.symm
  subst hq1 hq2
  refine fm_cnt (z' := (0, 0)) rfl (fm_st (st' := [.int (nI (A.1 7)), .int (nI gi), .ref 611]) rfl ?_)
  refine fm_join (pc2 := 79) (lv2 := [(0, .ref 586), (1, .int (nI kk)), (2, .int (nI gi))]) (st2 := [.int (nI (A.1 7)), .int (nI gi), .ref 611]) (I := fun M' => M' = fm_put1 Q5 586 45 (nI (128 * kk + 1 + 1 + 1 + 1 + 1 + 1 + 1))) (fun M' hI => ?_) (fun J => ?_)
  · subst hI
    refine fm_zast (j := gi) (len := 98) (v := nI (A.1 7)) hc 1 d_Mo_unpack_79 (by decide) (by omega) (by decide) rfl (by omega) (by decide) ?_
    refine fm_mem (M' := fm_put1 (fm_put1 Q5 586 45 (nI (128 * kk + 1 + 1 + 1 + 1 + 1 + 1 + 1))) 611 gi (nI (A.1 7))) rfl (by rw [zn_1 w7]) ?_
    refine fm_nm (fun Q6 eQ6 => ?_)
    have iQ6 : ∀ j, Q6.1 627 j = M.1 627 j := fun j => by rw [eQ6]; exact (p1_other (by decide)).trans ((p45_fr _ _ (by omega)).trans (iQ5 j))
    have cQ6 : Q6.1 586 45 = nI (128 * kk + 1 + 1 + 1 + 1 + 1 + 1 + 1) := by rw [eQ6]; exact (p1_other (by decide)).trans (p1_same _ _ _ _)
    have sQ6 : Q6.2 = M.2 := by rw [eQ6]; exact sQ5
    have fQ6 : ∀ q j, ¬ (605 ≤ q ∧ q ≤ 614 ∧ j = gi) → ¬ (q = 586 ∧ j = 45) → Q6.1 q j = M.1 q j := fun q j a b => by
      have e1 : (fm_put1 (fm_put1 Q5 586 45 (nI (128 * kk + 1 + 1 + 1 + 1 + 1 + 1 + 1))) 611 gi (nI (A.1 7))).1 q j = (fm_put1 Q5 586 45 (nI (128 * kk + 1 + 1 + 1 + 1 + 1 + 1 + 1))).1 q j := by
        by_cases g : q = 611
        · subst g; exact p1_at (by omega)
        · exact p1_other g
      rw [eQ6]
      exact e1.trans ((p45_fr q j b).trans (fQ5 q j a b))
    have nQ6_1 : Q6.1 605 gi = nI (A.1 1) := by rw [eQ6]; exact (p1_other (by decide)).trans ((p45_fr _ _ (by omega)).trans (nQ5_1))
    have nQ6_2 : Q6.1 606 gi = nI (A.1 2) := by rw [eQ6]; exact (p1_other (by decide)).trans ((p45_fr _ _ (by omega)).trans (nQ5_2))
    have nQ6_4 : Q6.1 608 gi = nI (A.1 4) := by rw [eQ6]; exact (p1_other (by decide)).trans ((p45_fr _ _ (by omega)).trans (nQ5_4))
    have nQ6_5 : Q6.1 609 gi = nI (A.1 5) := by rw [eQ6]; exact (p1_other (by decide)).trans ((p45_fr _ _ (by omega)).trans (nQ5_5))
    have nQ6_6 : Q6.1 610 gi = nI (A.1 6) := by rw [eQ6]; exact (p1_other (by decide)).trans ((p45_fr _ _ (by omega)).trans (nQ5_6))
    have nQ6_7 : Q6.1 611 gi = nI (A.1 7) := by rw [eQ6]; exact p1_same _ _ _ _
    clear eQ6
    have hRQ6 : fm_RP Q6 := fun q hq => by rw [sQ6]; exact hR q hq
    refine fm_aload_n hc d_Mo_unpack_80 rfl rfl ?_
    refine fm_callV (av := []) (rest := []) (ob := 586) (ci := 11) (r0 := ("AgentNetModel", F_Mo, 51)) (y := y_Mo_hear) (bytes := b_Mo_hear) hc fm_T0_good (fm_EX_st b x) hex q_1234 q_13 q_1231 q_1233 qs_Mo_hear pd_Mo_hear (by decide) (by omega) (by decide) (by decide) rfl rfl (rc_hear (M := Q6) (c0 := 128 * kk + 1 + 1 + 1 + 1 + 1 + 1 + 1) (v := 0) hn hRQ6 cQ6 (by omega) ((iQ6 _).trans b7)) ⟨rfl, rfl, Nat.le_of_ble_eq_true rfl, Nat.le_of_ble_eq_true rfl⟩ ⟨Nat.le_of_ble_eq_true rfl, Nat.le_of_ble_eq_true rfl⟩ d_Mo_unpack_81 (Nat.le_of_ble_eq_true rfl) (fun r n2 M2 hp => ?_)
    obtain ⟨rfl, hq1, hq2⟩ := hp
    replace hq1 := hq1.symm
    replace hq2 := hq2.symm
    subst hq1 hq2
    refine fm_cnt (z' := (0, 0)) rfl (fm_st (st' := [.int (nI 0)]) rfl ?_)
    refine fm_istore_n (lv' := [(3, .int (nI 0)), (0, .ref 586), (1, .int (nI kk)), (2, .int (nI gi))]) hc d_Mo_unpack_84 rfl (by decide) rfl ?_
    refine fm_aload_n hc d_Mo_unpack_85 rfl rfl ?_
    refine fm_getR (k := 22) (q := 607) hc K_Mo d_Mo_unpack_86 q_907 rfl (by decide) (by omega) (by decide) (by decide) (by decide) rfl (rp_fuel hRQ6) ?_
    refine fm_iload_n hc d_Mo_unpack_89 rfl rfl ?_
    refine fm_sipush (v := nI 256) hc d_Mo_unpack_90 rfl ?_
    refine fm_iload_n hc d_Mo_unpack_93 rfl rfl ?_
    refine fm_imul hc d_Mo_unpack_94 ?_
    refine fm_top (congrArg Value.int (pk_mul 256 0)) ?_
    refine fm_top (congrArg Value.int (show nI 0 = nI 0 from (by decide))) ?_
    refine fm_aload_n hc d_Mo_unpack_95 rfl rfl ?_
    refine fm_callV (av := []) (rest := [.int (nI 0), .int (nI gi), .ref 607]) (ob := 586) (ci := 11) (r0 := ("AgentNetModel", F_Mo, 51)) (y := y_Mo_hear) (bytes := b_Mo_hear) hc fm_T0_good (fm_EX_st b x) hex q_1234 q_13 q_1231 q_1233 qs_Mo_hear pd_Mo_hear (by decide) (by omega) (by decide) (by decide) rfl rfl (rc_hear (M := fm_put1 Q6 586 45 (nI (128 * kk + 1 + 1 + 1 + 1 + 1 + 1 + 1 + 1))) (c0 := 128 * kk + 1 + 1 + 1 + 1 + 1 + 1 + 1 + 1) (v := A.1 3) hn hRQ6 (p1_same _ _ _ _) (by omega) ((p45_fr _ _ (by omega)).trans ((iQ6 _).trans b8))) ⟨rfl, rfl, Nat.le_of_ble_eq_true rfl, Nat.le_of_ble_eq_true rfl⟩ ⟨Nat.le_of_ble_eq_true rfl, Nat.le_of_ble_eq_true rfl⟩ d_Mo_unpack_96 (Nat.le_of_ble_eq_true rfl) (fun r n2 M2 hp => ?_)
    obtain ⟨rfl, hq1, hq2⟩ := hp
    replace hq1 := hq1.symm
    replace hq2 := hq2.symm
    subst hq1 hq2
    refine fm_cnt (z' := (0, 0)) rfl (fm_st (st' := [.int (nI (A.1 3)), .int (nI 0), .int (nI gi), .ref 607]) rfl ?_)
    refine fm_iadd hc d_Mo_unpack_99 ?_
    refine fm_top (congrArg Value.int (nI_add 0 (A.1 3))) ?_
    refine fm_top (congrArg Value.int (show nI (0 + (A.1 3)) = nI (A.1 3) from (congrArg nI (Nat.zero_add _)))) ?_
    refine fm_iast (j := gi) (len := 98) (v := nI (A.1 3)) hc 0 d_Mo_unpack_100 (by decide) (by omega) (by decide) rfl (by omega) (by decide) ?_
    refine fm_nm (fun Q7 eQ7 => ?_)
    have iQ7 : ∀ j, Q7.1 627 j = M.1 627 j := fun j => by rw [eQ7]; exact (p1_other (by decide)).trans ((p45_fr _ _ (by omega)).trans ((p45_fr _ _ (by omega)).trans (iQ6 j)))
    have cQ7 : Q7.1 586 45 = nI (128 * kk + 1 + 1 + 1 + 1 + 1 + 1 + 1 + 1 + 1) := by rw [eQ7]; exact (p1_other (by decide)).trans (p1_same _ _ _ _)
    have sQ7 : Q7.2 = M.2 := by rw [eQ7]; exact sQ6
    have fQ7 : ∀ q j, ¬ (605 ≤ q ∧ q ≤ 614 ∧ j = gi) → ¬ (q = 586 ∧ j = 45) → Q7.1 q j = M.1 q j := fun q j a b => by
      have e1 : (fm_put1 (fm_put1 (fm_put1 Q6 586 45 (nI (128 * kk + 1 + 1 + 1 + 1 + 1 + 1 + 1 + 1))) 586 45 (nI (128 * kk + 1 + 1 + 1 + 1 + 1 + 1 + 1 + 1 + 1))) 607 gi (nI (A.1 3))).1 q j = (fm_put1 (fm_put1 Q6 586 45 (nI (128 * kk + 1 + 1 + 1 + 1 + 1 + 1 + 1 + 1))) 586 45 (nI (128 * kk + 1 + 1 + 1 + 1 + 1 + 1 + 1 + 1 + 1))).1 q j := by
        by_cases g : q = 607
        · subst g; exact p1_at (by omega)
        · exact p1_other g
      rw [eQ7]
      exact e1.trans ((p45_fr q j b).trans ((p45_fr q j b).trans (fQ6 q j a b)))
    have nQ7_1 : Q7.1 605 gi = nI (A.1 1) := by rw [eQ7]; exact (p1_other (by decide)).trans ((p45_fr _ _ (by omega)).trans ((p45_fr _ _ (by omega)).trans (nQ6_1)))
    have nQ7_2 : Q7.1 606 gi = nI (A.1 2) := by rw [eQ7]; exact (p1_other (by decide)).trans ((p45_fr _ _ (by omega)).trans ((p45_fr _ _ (by omega)).trans (nQ6_2)))
    have nQ7_4 : Q7.1 608 gi = nI (A.1 4) := by rw [eQ7]; exact (p1_other (by decide)).trans ((p45_fr _ _ (by omega)).trans ((p45_fr _ _ (by omega)).trans (nQ6_4)))
    have nQ7_5 : Q7.1 609 gi = nI (A.1 5) := by rw [eQ7]; exact (p1_other (by decide)).trans ((p45_fr _ _ (by omega)).trans ((p45_fr _ _ (by omega)).trans (nQ6_5)))
    have nQ7_6 : Q7.1 610 gi = nI (A.1 6) := by rw [eQ7]; exact (p1_other (by decide)).trans ((p45_fr _ _ (by omega)).trans ((p45_fr _ _ (by omega)).trans (nQ6_6)))
    have nQ7_7 : Q7.1 611 gi = nI (A.1 7) := by rw [eQ7]; exact (p1_other (by decide)).trans ((p45_fr _ _ (by omega)).trans ((p45_fr _ _ (by omega)).trans (nQ6_7)))
    have nQ7_3 : Q7.1 607 gi = nI (A.1 3) := by rw [eQ7]; exact p1_same _ _ _ _
    clear eQ7
    have hRQ7 : fm_RP Q7 := fun q hq => by rw [sQ7]; exact hR q hq
    refine fm_aload_n hc d_Mo_unpack_101 rfl rfl ?_
    refine fm_getR (k := 27) (q := 612) hc K_Mo d_Mo_unpack_102 q_912 rfl (by decide) (by omega) (by decide) (by decide) (by decide) rfl (rp_size hRQ7) ?_
    refine fm_iload_n hc d_Mo_unpack_105 rfl rfl ?_
    refine fm_aload_n hc d_Mo_unpack_106 rfl rfl ?_
    refine fm_callV (av := []) (rest := [.int (nI gi), .ref 612]) (ob := 586) (ci := 11) (r0 := ("AgentNetModel", F_Mo, 51)) (y := y_Mo_hear) (bytes := b_Mo_hear) hc fm_T0_good (fm_EX_st b x) hex q_1234 q_13 q_1231 q_1233 qs_Mo_hear pd_Mo_hear (by decide) (by omega) (by decide) (by decide) rfl rfl (rc_hear (M := Q7) (c0 := 128 * kk + 1 + 1 + 1 + 1 + 1 + 1 + 1 + 1 + 1) (v := A.2.1.length) hn hRQ7 cQ7 (by omega) ((iQ7 _).trans b9)) ⟨rfl, rfl, Nat.le_of_ble_eq_true rfl, Nat.le_of_ble_eq_true rfl⟩ ⟨Nat.le_of_ble_eq_true rfl, Nat.le_of_ble_eq_true rfl⟩ d_Mo_unpack_107 (Nat.le_of_ble_eq_true rfl) (fun r n2 M2 hp => ?_)
    obtain ⟨rfl, hq1, hq2⟩ := hp
    replace hq1 := hq1.symm
    replace hq2 := hq2.symm
    subst hq1 hq2
    refine fm_cnt (z' := (0, 0)) rfl (fm_st (st' := [.int (nI A.2.1.length), .int (nI gi), .ref 612]) rfl ?_)
    refine fm_iast (j := gi) (len := 98) (v := nI A.2.1.length) hc 0 d_Mo_unpack_110 (by decide) (by omega) (by decide) rfl (by omega) (by decide) ?_
    refine fm_nm (fun Q8 eQ8 => ?_)
    have iQ8 : ∀ j, Q8.1 627 j = M.1 627 j := fun j => by rw [eQ8]; exact (p1_other (by decide)).trans ((p45_fr _ _ (by omega)).trans (iQ7 j))
    have cQ8 : Q8.1 586 45 = nI (128 * kk + 1 + 1 + 1 + 1 + 1 + 1 + 1 + 1 + 1 + 1) := by rw [eQ8]; exact (p1_other (by decide)).trans (p1_same _ _ _ _)
    have sQ8 : Q8.2 = M.2 := by rw [eQ8]; exact sQ7
    have fQ8 : ∀ q j, ¬ (605 ≤ q ∧ q ≤ 614 ∧ j = gi) → ¬ (q = 586 ∧ j = 45) → Q8.1 q j = M.1 q j := fun q j a b => by
      have e1 : (fm_put1 (fm_put1 Q7 586 45 (nI (128 * kk + 1 + 1 + 1 + 1 + 1 + 1 + 1 + 1 + 1 + 1))) 612 gi (nI (A.2.1.length))).1 q j = (fm_put1 Q7 586 45 (nI (128 * kk + 1 + 1 + 1 + 1 + 1 + 1 + 1 + 1 + 1 + 1))).1 q j := by
        by_cases g : q = 612
        · subst g; exact p1_at (by omega)
        · exact p1_other g
      rw [eQ8]
      exact e1.trans ((p45_fr q j b).trans (fQ7 q j a b))
    have nQ8_1 : Q8.1 605 gi = nI (A.1 1) := by rw [eQ8]; exact (p1_other (by decide)).trans ((p45_fr _ _ (by omega)).trans (nQ7_1))
    have nQ8_2 : Q8.1 606 gi = nI (A.1 2) := by rw [eQ8]; exact (p1_other (by decide)).trans ((p45_fr _ _ (by omega)).trans (nQ7_2))
    have nQ8_4 : Q8.1 608 gi = nI (A.1 4) := by rw [eQ8]; exact (p1_other (by decide)).trans ((p45_fr _ _ (by omega)).trans (nQ7_4))
    have nQ8_5 : Q8.1 609 gi = nI (A.1 5) := by rw [eQ8]; exact (p1_other (by decide)).trans ((p45_fr _ _ (by omega)).trans (nQ7_5))
    have nQ8_6 : Q8.1 610 gi = nI (A.1 6) := by rw [eQ8]; exact (p1_other (by decide)).trans ((p45_fr _ _ (by omega)).trans (nQ7_6))
    have nQ8_7 : Q8.1 611 gi = nI (A.1 7) := by rw [eQ8]; exact (p1_other (by decide)).trans ((p45_fr _ _ (by omega)).trans (nQ7_7))
    have nQ8_3 : Q8.1 607 gi = nI (A.1 3) := by rw [eQ8]; exact (p1_other (by decide)).trans ((p45_fr _ _ (by omega)).trans (nQ7_3))
    have nQ8_8 : Q8.1 612 gi = nI (A.2.1.length) := by rw [eQ8]; exact p1_same _ _ _ _
    clear eQ8
    have hRQ8 : fm_RP Q8 := fun q hq => by rw [sQ8]; exact hR q hq
    refine fm_iconst (v := nI 0) hc d_Mo_unpack_111 rfl ?_
    refine fm_istore (lv' := [(4, .int (nI 0)), (3, .int (nI 0)), (0, .ref 586), (1, .int (nI kk)), (2, .int (nI gi))]) hc d_Mo_unpack_112 (by decide) rfl ?_
    refine fm_dropl (lv' := [(4, .int (nI 0)), (3, .int (nI 0)), (0, .ref 586), (1, .int (nI kk)), (2, .int (nI gi))]) (by simp) ?_
    refine fm_loopI (N := A.2.1.length) (lv := fun k => [(4, .int (nI k)), (3, .int (nI 0)), (0, .ref 586), (1, .int (nI kk)), (2, .int (nI gi))]) (I := fun k M' => M'.1 586 45 = nI (128 * kk + (10 + ((A.2.1.take k).flatMap im_V).length)) ∧ (∀ i v, i < k → A.2.1[i]? = some v → M'.2.1 613 (6 * gi + i) = e64 v) ∧ M'.2.2 = M.2.2 ∧ (∀ q j, ¬ (q = 586 ∧ j = 45) → M'.1 q j = Q8.1 q j) ∧ (∀ q j, ¬ (q = 613 ∧ 6 * gi ≤ j ∧ j < 6 * gi + 6) → M'.2.1 q j = M.2.1 q j)) (fun k Mk hk' hI ih => ?_) (fun Mk hI => ?_) ⟨cQ8, fun i v hi => absurd hi (Nat.not_lt_zero i), by rw [sQ8], fun _ _ _ => rfl, fun q j _ => by rw [sQ8]⟩
    · obtain ⟨l2, l3, l4, l5, l6⟩ := hI
      have hRk : fm_RP Mk := fun q hq => by rw [l4]; exact hR q hq
      have e627 : ∀ j, Mk.1 627 j = M.1 627 j := fun j => (l5 _ _ (by omega)).trans (iQ8 j)
      obtain ⟨v, hv⟩ : ∃ v, A.2.1[k]? = some v := ⟨_, List.getElem?_eq_getElem hk'⟩
      have hvat := irA_of e627 (irA_im hi (imA_fl hS hv))
      have sK := fl_len imV_len (A.2.1.take k)
      rw [List.length_take] at sK
      refine fm_iload hc d_Mo_unpack_114 rfl ?_
      refine fm_aload_n hc d_Mo_unpack_116 rfl rfl ?_
      refine fm_getR (k := 27) (q := 612) hc K_Mo d_Mo_unpack_117 q_912 rfl (by decide) (by omega) (by decide) (by decide) (by decide) rfl (rp_size hRk) ?_
      refine fm_iload_n hc d_Mo_unpack_120 rfl rfl ?_
      refine fm_iald (j := gi) (len := 98) hc 0 d_Mo_unpack_121 (by decide) (by omega) (by decide) rfl (by omega) (by decide) ?_
      refine fm_top (congrArg Value.int (show Mk.1 612 gi = nI A.2.1.length from ((l5 _ _ (by omega)).trans nQ8_8))) ?_
      refine fm_icmp_ge (tgt := 147) hc d_Mo_unpack_122 rfl (fun gQ => absurd gQ (hnle (a := A.2.1.length) (c := k) hk' (by omega))) (fun _ => ?_)
      refine fm_aload_n hc d_Mo_unpack_125 rfl rfl ?_
      refine fm_getR (k := 28) (q := 613) hc K_Mo d_Mo_unpack_126 q_913 rfl (by decide) (by omega) (by decide) (by decide) (by decide) rfl (rp_stack hRk) ?_
      refine fm_bipush (v := nI 6) hc d_Mo_unpack_129 rfl ?_
      refine fm_iload_n hc d_Mo_unpack_131 rfl rfl ?_
      refine fm_imul hc d_Mo_unpack_132 ?_
      refine fm_top (congrArg Value.int (pk_mul 6 gi)) ?_
      refine fm_iload hc d_Mo_unpack_133 rfl ?_
      refine fm_iadd hc d_Mo_unpack_135 ?_
      refine fm_top (congrArg Value.int (nI_add (6 * gi) k)) ?_
      refine fm_aload_n hc d_Mo_unpack_136 rfl rfl ?_
      refine fm_callV (av := []) (rest := [.int (nI ((6 * gi) + k)), .ref 613]) (ob := 586) (ci := 11) (r0 := ("AgentNetModel", F_Mo, 51)) (y := y_Mo_hearValue) (bytes := b_Mo_hearValue) hc fm_T0_good (fm_EX_st b x) hex q_1238 q_13 q_1235 q_1237 qs_Mo_hearValue pd_Mo_hearValue (by decide) (by omega) (by decide) (by decide) rfl rfl (rc_hearV (v := v) (kk := kk) (c0 := 10 + ((A.2.1.take k).flatMap im_V).length) hn hRk hk (by omega) l2 hvat) ⟨rfl, rfl, Nat.le_of_ble_eq_true rfl, Nat.le_of_ble_eq_true rfl⟩ ⟨Nat.le_of_ble_eq_true rfl, Nat.le_of_ble_eq_true rfl⟩ d_Mo_unpack_137 (Nat.le_of_ble_eq_true rfl) (fun r n2 M2 hp => ?_)
      obtain ⟨rfl, hq1, r1, r2, r3⟩ := hp
      replace hq1 := hq1.symm
      subst hq1
      revert r1 r2 r3
      generalize M2 = Ma
      intro r1 r2 r3
      refine fm_cnt (z' := (0, 0)) rfl (fm_st (st' := [.long (e64 v), .int (nI ((6 * gi) + k)), .ref 613]) rfl ?_)
      refine fm_last (j := (6 * gi) + k) (len := 588) (v := e64 v) hc 3 d_Mo_unpack_140 (by decide) (by omega) (by decide) rfl (by omega) (by decide) ?_
      refine fm_iinc (v := nI (k + 1)) (lv' := [(4, .int (nI (k + 1))), (3, .int (nI 0)), (0, .ref 586), (1, .int (nI kk)), (2, .int (nI gi))]) hc d_Mo_unpack_141 rfl (nI_1 k) (by decide) rfl ?_
      refine fm_goto (tgt := 114) hc d_Mo_unpack_144 rfl ?_
      refine fm_dropl (lv' := [(4, .int (nI (k + 1))), (3, .int (nI 0)), (0, .ref 586), (1, .int (nI kk)), (2, .int (nI gi))]) (by simp) ?_
      refine ih _ ⟨?_, fun i u hi hu => ?_, by rw [show (fm_put2 Ma 613 (6 * gi + k) (e64 v)).2.2 = Ma.2.2 from rfl, r2]; exact l4, fun q j a => (r3 q j a).trans (l5 q j a), fun q j a => ?_⟩
      · show Ma.1 586 45 = _
        rw [r1, fl_take hv, List.length_append, Nat.add_assoc, Nat.add_assoc]
      · by_cases e : i = k
        · subst e
          rw [p2_same]
          rw [hv] at hu
          exact congrArg e64 (Option.some.inj hu)
        · rw [p2_at (by omega), r2]
          exact l3 i u (by omega) hu
      · have e2 : (fm_put2 Ma 613 (6 * gi + k) (e64 v)).2.1 q j = Ma.2.1 q j := by
          by_cases g : q = 613
          · subst g; exact p2_at (by omega)
          · exact p2_other g
        rw [e2, r2]
        exact l6 q j a
    · obtain ⟨l2, l3, l4, l5, l6⟩ := hI
      have hRk : fm_RP Mk := fun q hq => by rw [l4]; exact hR q hq
      have e627 : ∀ j, Mk.1 627 j = M.1 627 j := fun j => (l5 _ _ (by omega)).trans (iQ8 j)
      rw [List.take_length] at l2
      have hp0 := irA_of e627 (irA_im hi hQ1) 0 _ rfl
      rw [Nat.add_zero] at hp0
      refine fm_iload hc d_Mo_unpack_114 rfl ?_
      refine fm_aload_n hc d_Mo_unpack_116 rfl rfl ?_
      refine fm_getR (k := 27) (q := 612) hc K_Mo d_Mo_unpack_117 q_912 rfl (by decide) (by omega) (by decide) (by decide) (by decide) rfl (rp_size hRk) ?_
      refine fm_iload_n hc d_Mo_unpack_120 rfl rfl ?_
      refine fm_iald (j := gi) (len := 98) hc 0 d_Mo_unpack_121 (by decide) (by omega) (by decide) rfl (by omega) (by decide) ?_
      refine fm_top (congrArg Value.int (show Mk.1 612 gi = nI A.2.1.length from ((l5 _ _ (by omega)).trans nQ8_8))) ?_
      refine fm_icmp_ge (tgt := 147) hc d_Mo_unpack_122 rfl (fun _ => ?_) (fun gQ => absurd (nI_le (Nat.le_refl _) (by omega)) gQ)
      refine fm_aload_n hc d_Mo_unpack_147 rfl rfl ?_
      refine fm_getR (k := 29) (q := 614) hc K_Mo d_Mo_unpack_148 q_914 rfl (by decide) (by omega) (by decide) (by decide) (by decide) rfl (rp_pairs hRk) ?_
      refine fm_iload_n hc d_Mo_unpack_151 rfl rfl ?_
      refine fm_aload_n hc d_Mo_unpack_152 rfl rfl ?_
      refine fm_callV (av := []) (rest := [.int (nI gi), .ref 614]) (ob := 586) (ci := 11) (r0 := ("AgentNetModel", F_Mo, 51)) (y := y_Mo_hear) (bytes := b_Mo_hear) hc fm_T0_good (fm_EX_st b x) hex q_1234 q_13 q_1231 q_1233 qs_Mo_hear pd_Mo_hear (by decide) (by omega) (by decide) (by decide) rfl rfl (rc_hear (M := Mk) (v := A.2.2.length) (c0 := 128 * kk + (10 + (A.2.1.flatMap im_V).length)) hn hRk l2 (by omega) hp0) ⟨rfl, rfl, Nat.le_of_ble_eq_true rfl, Nat.le_of_ble_eq_true rfl⟩ ⟨Nat.le_of_ble_eq_true rfl, Nat.le_of_ble_eq_true rfl⟩ d_Mo_unpack_153 (Nat.le_of_ble_eq_true rfl) (fun r n2 M2 hp => ?_)
      obtain ⟨rfl, hq1, hq2⟩ := hp
      replace hq1 := hq1.symm
      replace hq2 := hq2.symm
      subst hq1 hq2
      refine fm_cnt (z' := (0, 0)) rfl (fm_st (st' := [.int (nI A.2.2.length), .int (nI gi), .ref 614]) rfl ?_)
      refine fm_iast (j := gi) (len := 98) (v := nI A.2.2.length) hc 0 d_Mo_unpack_156 (by decide) (by omega) (by decide) rfl (by omega) (by decide) ?_
      refine fm_iconst (v := nI 0) hc d_Mo_unpack_157 rfl ?_
      refine fm_istore (lv' := [(4, .int (nI 0)), (3, .int (nI 0)), (0, .ref 586), (1, .int (nI kk)), (2, .int (nI gi))]) hc d_Mo_unpack_158 (by decide) rfl ?_
      refine fm_nm (fun Qz eQz => ?_)
      have z2 : Qz.1 586 45 = nI (128 * kk + (10 + (A.2.1.flatMap im_V).length) + 1) := by rw [eQz]; exact (p1_other (by decide)).trans (p1_same _ _ _ _)
      have z3 : Qz.2 = Mk.2 := by rw [eQz]; rfl
      have z4 : ∀ q j, ¬ (q = 614 ∧ j = gi) → ¬ (q = 586 ∧ j = 45) → Qz.1 q j = Mk.1 q j := fun q j a b => by
        have e1 : (fm_put1 (fm_put1 Mk 586 45 (nI (128 * kk + (10 + (A.2.1.flatMap im_V).length) + 1))) 614 gi (nI A.2.2.length)).1 q j = (fm_put1 Mk 586 45 (nI (128 * kk + (10 + (A.2.1.flatMap im_V).length) + 1))).1 q j := by
          by_cases g : q = 614
          · subst g; exact p1_at (by omega)
          · exact p1_other g
        rw [eQz]
        exact e1.trans (p45_fr q j b)
      have z6 : Qz.1 614 gi = nI A.2.2.length := by rw [eQz]; exact p1_same _ _ _ _
      clear eQz
      have nz : ∀ q, 605 ≤ q → q ≤ 612 → Qz.1 q gi = Q8.1 q gi := fun q a b => (z4 _ _ (by omega) (by omega)).trans (l5 _ _ (by omega))
      have sz : ∀ i v, A.2.1[i]? = some v → Qz.2.1 613 (6 * gi + i) = e64 v := fun i v hv => by rw [z3]; exact l3 i v (List.getElem?_eq_some_iff.mp hv).1 hv
      have rz : Qz.2.2 = M.2.2 := by rw [z3]; exact l4
      have lz : ∀ q j, ¬ (q = 613 ∧ 6 * gi ≤ j ∧ j < 6 * gi + 6) → Qz.2.1 q j = M.2.1 q j := fun q j a => by rw [z3]; exact l6 q j a
      have fz : ∀ q j, ¬ (605 ≤ q ∧ q ≤ 614 ∧ j = gi) → ¬ (q = 586 ∧ j = 45) → Qz.1 q j = M.1 q j := fun q j a b => (z4 q j (by omega) b).trans ((l5 q j b).trans (fQ8 q j a b))
      have iz : ∀ j, Qz.1 627 j = M.1 627 j := fun j => fz _ _ (by omega) (by omega)
      refine fm_loopI (N := A.2.2.length) (lv := fun k => [(4, .int (nI k)), (3, .int (nI 0)), (0, .ref 586), (1, .int (nI kk)), (2, .int (nI gi))]) (I := fun k M' => M'.1 586 45 = nI (128 * kk + (10 + (A.2.1.flatMap im_V).length + 1 + ((A.2.2.take k).flatMap im_P).length)) ∧ (∀ i v, i < k → A.2.2[i]? = some v → M'.2.1 615 (9 * gi + i) = e64 v.1 ∧ M'.2.1 616 (9 * gi + i) = e64 v.2) ∧ M'.2.2 = M.2.2 ∧ (∀ q j, ¬ (q = 586 ∧ j = 45) → M'.1 q j = Qz.1 q j) ∧ (∀ q j, ¬ ((q = 615 ∨ q = 616) ∧ 9 * gi ≤ j ∧ j < 9 * gi + 9) → M'.2.1 q j = Qz.2.1 q j)) (fun k Mk hk' hI ih => ?_) (fun Mk hI => ?_) ⟨z2, fun i v hi => absurd hi (Nat.not_lt_zero i), rz, fun _ _ _ => rfl, fun _ _ _ => rfl⟩
      · clear l2 l3 l4 l5 l6 hRk e627 z3 z4
        obtain ⟨l2, l3, l4, l5, l6⟩ := hI
        have hRk : fm_RP Mk := fun q hq => by rw [l4]; exact hR q hq
        have e627 : ∀ j, Mk.1 627 j = M.1 627 j := fun j => (l5 _ _ (by omega)).trans (iz j)
        obtain ⟨v, hv⟩ : ∃ v, A.2.2[k]? = some v := ⟨_, List.getElem?_eq_getElem hk'⟩
        have hvat := imA_fl hQ2 hv
        have hv1 : im_at bs _ (im_V v.1) := imA_left hvat
        have hv2 : im_at bs _ (im_V v.2) := imA_right hvat
        have sK := fl_len imP_len (A.2.2.take k)
        rw [List.length_take] at sK
        have sV := imV_len v.1
        refine fm_iload hc d_Mo_unpack_160 rfl ?_
        refine fm_aload_n hc d_Mo_unpack_162 rfl rfl ?_
        refine fm_getR (k := 29) (q := 614) hc K_Mo d_Mo_unpack_163 q_914 rfl (by decide) (by omega) (by decide) (by decide) (by decide) rfl (rp_pairs hRk) ?_
        refine fm_iload_n hc d_Mo_unpack_166 rfl rfl ?_
        refine fm_iald (j := gi) (len := 98) hc 0 d_Mo_unpack_167 (by decide) (by omega) (by decide) rfl (by omega) (by decide) ?_
        refine fm_top (congrArg Value.int (show Mk.1 614 gi = nI A.2.2.length from ((l5 _ _ (by omega)).trans z6))) ?_
        refine fm_icmp_ge (tgt := 209) hc d_Mo_unpack_168 rfl (fun gQ => absurd gQ (hnle (a := A.2.2.length) (c := k) hk' (by omega))) (fun _ => ?_)
        refine fm_aload_n hc d_Mo_unpack_171 rfl rfl ?_
        refine fm_getR (k := 30) (q := 615) hc K_Mo d_Mo_unpack_172 q_915 rfl (by decide) (by omega) (by decide) (by decide) (by decide) rfl (rp_first hRk) ?_
        refine fm_bipush (v := nI 9) hc d_Mo_unpack_175 rfl ?_
        refine fm_iload_n hc d_Mo_unpack_177 rfl rfl ?_
        refine fm_imul hc d_Mo_unpack_178 ?_
        refine fm_top (congrArg Value.int (pk_mul 9 gi)) ?_
        refine fm_iload hc d_Mo_unpack_179 rfl ?_
        refine fm_iadd hc d_Mo_unpack_181 ?_
        refine fm_top (congrArg Value.int (nI_add (9 * gi) k)) ?_
        refine fm_aload_n hc d_Mo_unpack_182 rfl rfl ?_
        refine fm_callV (av := []) (rest := [.int (nI ((9 * gi) + k)), .ref 615]) (ob := 586) (ci := 11) (r0 := ("AgentNetModel", F_Mo, 51)) (y := y_Mo_hearValue) (bytes := b_Mo_hearValue) hc fm_T0_good (fm_EX_st b x) hex q_1238 q_13 q_1235 q_1237 qs_Mo_hearValue pd_Mo_hearValue (by decide) (by omega) (by decide) (by decide) rfl rfl (rc_hearV (v := v.1) (kk := kk) (c0 := (10 + (A.2.1.flatMap im_V).length + 1 + ((A.2.2.take k).flatMap im_P).length)) hn hRk hk (by omega) l2 (irA_of e627 (irA_im hi hv1))) ⟨rfl, rfl, Nat.le_of_ble_eq_true rfl, Nat.le_of_ble_eq_true rfl⟩ ⟨Nat.le_of_ble_eq_true rfl, Nat.le_of_ble_eq_true rfl⟩ d_Mo_unpack_183 (Nat.le_of_ble_eq_true rfl) (fun r n2 M2 hp => ?_)
        obtain ⟨rfl, hq1, r1, r2, r3⟩ := hp
        replace hq1 := hq1.symm
        subst hq1
        revert r1 r2 r3
        generalize M2 = Ma
        intro r1 r2 r3
        have hRa : fm_RP Ma := fun q hq => by rw [r2]; exact hRk q hq
        refine fm_cnt (z' := (0, 0)) rfl (fm_st (st' := [.long (e64 v.1), .int (nI ((9 * gi) + k)), .ref 615]) rfl ?_)
        refine fm_last (j := (9 * gi) + k) (len := 882) (v := e64 v.1) hc 3 d_Mo_unpack_186 (by decide) (by omega) (by decide) rfl (by omega) (by decide) ?_
        refine fm_aload_n hc d_Mo_unpack_187 rfl rfl ?_
        refine fm_getR (k := 31) (q := 616) hc K_Mo d_Mo_unpack_188 q_916 rfl (by decide) (by omega) (by decide) (by decide) (by decide) rfl (rp_second hRa) ?_
        refine fm_bipush (v := nI 9) hc d_Mo_unpack_191 rfl ?_
        refine fm_iload_n hc d_Mo_unpack_193 rfl rfl ?_
        refine fm_imul hc d_Mo_unpack_194 ?_
        refine fm_top (congrArg Value.int (pk_mul 9 gi)) ?_
        refine fm_iload hc d_Mo_unpack_195 rfl ?_
        refine fm_iadd hc d_Mo_unpack_197 ?_
        refine fm_top (congrArg Value.int (nI_add (9 * gi) k)) ?_
        refine fm_aload_n hc d_Mo_unpack_198 rfl rfl ?_
        refine fm_callV (av := []) (rest := [.int (nI ((9 * gi) + k)), .ref 616]) (ob := 586) (ci := 11) (r0 := ("AgentNetModel", F_Mo, 51)) (y := y_Mo_hearValue) (bytes := b_Mo_hearValue) hc fm_T0_good (fm_EX_st b x) hex q_1238 q_13 q_1235 q_1237 qs_Mo_hearValue pd_Mo_hearValue (by decide) (by omega) (by decide) (by decide) rfl rfl (rc_hearV (M := fm_put2 Ma 615 (9 * gi + k) (e64 v.1)) (v := v.2) (kk := kk) (c0 := (10 + (A.2.1.flatMap im_V).length + 1 + ((A.2.2.take k).flatMap im_P).length) + (im_V v.1).length) hn (fun q hq => hRa q hq) hk (by omega) (by show Ma.1 586 45 = _; rw [r1, Nat.add_assoc]) (irA_of (fun j => (r3 _ _ (by omega)).trans (e627 j)) (irA_im hi hv2))) ⟨rfl, rfl, Nat.le_of_ble_eq_true rfl, Nat.le_of_ble_eq_true rfl⟩ ⟨Nat.le_of_ble_eq_true rfl, Nat.le_of_ble_eq_true rfl⟩ d_Mo_unpack_199 (Nat.le_of_ble_eq_true rfl) (fun r n2 M2 hp => ?_)
        obtain ⟨rfl, hq1, t1, t2, t3⟩ := hp
        replace hq1 := hq1.symm
        subst hq1
        revert t1 t2 t3
        generalize M2 = Mb
        intro t1 t2 t3
        refine fm_cnt (z' := (0, 0)) rfl (fm_st (st' := [.long (e64 v.2), .int (nI ((9 * gi) + k)), .ref 616]) rfl ?_)
        refine fm_last (j := (9 * gi) + k) (len := 882) (v := e64 v.2) hc 3 d_Mo_unpack_202 (by decide) (by omega) (by decide) rfl (by omega) (by decide) ?_
        refine fm_iinc (v := nI (k + 1)) (lv' := [(4, .int (nI (k + 1))), (3, .int (nI 0)), (0, .ref 586), (1, .int (nI kk)), (2, .int (nI gi))]) hc d_Mo_unpack_203 rfl (nI_1 k) (by decide) rfl ?_
        refine fm_goto (tgt := 160) hc d_Mo_unpack_206 rfl ?_
        refine fm_dropl (lv' := [(4, .int (nI (k + 1))), (3, .int (nI 0)), (0, .ref 586), (1, .int (nI kk)), (2, .int (nI gi))]) (by simp) ?_
        have y1 : ∀ q j, ¬ ((q = 615 ∨ q = 616) ∧ 9 * gi ≤ j ∧ j < 9 * gi + 9) → (fm_put2 Mb 616 (9 * gi + k) (e64 v.2)).2.1 q j = Mk.2.1 q j := fun q j a => by
          have e2 : (fm_put2 Mb 616 (9 * gi + k) (e64 v.2)).2.1 q j = Mb.2.1 q j := by
            by_cases g : q = 616
            · subst g; exact p2_at (by omega)
            · exact p2_other g
          have e3 : (fm_put2 Ma 615 (9 * gi + k) (e64 v.1)).2.1 q j = Ma.2.1 q j := by
            by_cases g : q = 615
            · subst g; exact p2_at (by omega)
            · exact p2_other g
          rw [e2, t2, e3, r2]
        refine ih _ ⟨?_, fun i u hi hu => ?_, by rw [show (fm_put2 Mb 616 (9 * gi + k) (e64 v.2)).2.2 = Mb.2.2 from rfl, t2, show (fm_put2 Ma 615 (9 * gi + k) (e64 v.1)).2.2 = Ma.2.2 from rfl, r2]; exact l4, fun q j a => (t3 q j a).trans ((r3 q j a).trans (l5 q j a)), fun q j a => (y1 q j a).trans (l6 q j a)⟩
        · show Mb.1 586 45 = _
          rw [t1, fl_take hv, List.length_append, im_P, List.length_append]
          exact congrArg nI (by omega)
        · by_cases e : i = k
          · subst e
            rw [hv] at hu
            obtain rfl := Option.some.inj hu
            exact ⟨(p2_other (by decide)).trans (by rw [t2]; exact p2_same _ _ _ _), p2_same _ _ _ _⟩
          · have := l3 i u (by omega) hu
            refine ⟨?_, ?_⟩
            · rw [p2_other (by decide), t2, p2_at (by omega), r2]; exact this.1
            · rw [p2_at (by omega), t2, p2_other (by decide), r2]; exact this.2
      · clear l2 l3 l4 l5 l6 hRk e627 z3 z4
        obtain ⟨l2, l3, l4, l5, l6⟩ := hI
        have hRk : fm_RP Mk := fun q hq => by rw [l4]; exact hR q hq
        have e627 : ∀ j, Mk.1 627 j = M.1 627 j := fun j => (l5 _ _ (by omega)).trans (iz j)
        refine fm_iload hc d_Mo_unpack_160 rfl ?_
        refine fm_aload_n hc d_Mo_unpack_162 rfl rfl ?_
        refine fm_getR (k := 29) (q := 614) hc K_Mo d_Mo_unpack_163 q_914 rfl (by decide) (by omega) (by decide) (by decide) (by decide) rfl (rp_pairs hRk) ?_
        refine fm_iload_n hc d_Mo_unpack_166 rfl rfl ?_
        refine fm_iald (j := gi) (len := 98) hc 0 d_Mo_unpack_167 (by decide) (by omega) (by decide) rfl (by omega) (by decide) ?_
        refine fm_top (congrArg Value.int (show Mk.1 614 gi = nI A.2.2.length from ((l5 _ _ (by omega)).trans z6))) ?_
        refine fm_icmp_ge (tgt := 209) hc d_Mo_unpack_168 rfl (fun _ => ?_) (fun gQ => absurd (nI_le (Nat.le_refl _) (by omega)) gQ)
        refine fm_vret hc hr d_Mo_unpack_209 (Nat.le_refl _) (Nat.le_refl _) ⟨rfl, rfl, ⟨fun j hj1 hj8 _ => ?_, (l5 _ _ (by omega)).trans ((nz _ (by decide) (by decide)).trans nQ8_8), fun a ha => (show a < 9 by omega), fun a c _ _ e => e, fun i v hv => (by rw [map_idf, l6 _ _ (by omega)]; exact sz i v hv), fun i v hv => (by rw [map_idf, map_idf]; exact l3 i v (List.getElem?_eq_some_iff.mp hv).1 hv)⟩, l4, fun q j a b => (l5 q j b).trans (fz q j a b), fun q j a b => (l6 q j b).trans (lz q j a)⟩
        rw [l5 _ _ (by omega), nz _ (by omega) (by omega)]
        rcases (show j = 1 ∨ j = 2 ∨ j = 3 ∨ j = 4 ∨ j = 5 ∨ j = 6 ∨ j = 7 by omega) with rfl | rfl | rfl | rfl | rfl | rfl | rfl
        · exact nQ8_1
        · exact nQ8_2
        · exact nQ8_3
        · exact nQ8_4
        · exact nQ8_5
        · exact nQ8_6
        · exact nQ8_7
  · by_cases gz : A.1 7 = 0
    · refine fm_iconst (v := nI 1) hc d_Mo_unpack_70 rfl ?_
      refine fm_icmp_ne (tgt := 78) hc d_Mo_unpack_71 rfl (fun _ => ?_) (fun gQ => absurd gQ (fun q => by have := nI_inj (a := A.1 7) (c := 1) (by omega) (by decide) q; omega))
      refine fm_iconst (v := nI 0) hc d_Mo_unpack_78 rfl ?_
      refine fm_top (congrArg Value.int (show nI 0 = nI (A.1 7) by rw [gz])) ?_
      exact J _ rfl
    · refine fm_iconst (v := nI 1) hc d_Mo_unpack_70 rfl ?_
      refine fm_icmp_ne (tgt := 78) hc d_Mo_unpack_71 rfl (fun gQ => absurd (congrArg nI (show A.1 7 = 1 by omega)) gQ) (fun _ => ?_)
      refine fm_iconst (v := nI 1) hc d_Mo_unpack_74 rfl ?_
      refine fm_goto (tgt := 79) hc d_Mo_unpack_75 rfl ?_
      refine fm_top (congrArg Value.int (show nI 1 = nI (A.1 7) by rw [show A.1 7 = 1 by omega])) ?_
      exact J _ rfl
