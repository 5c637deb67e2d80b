/-! THE CLASS: running -/
def rn_w (S : Nat → Nat) : Nat → Int32
  | 0 => nI 0
  | k + 1 => rn_w S k ||| (if S k = 1 then nI 1 <<< (nI k &&& 31) else nI 0)
def rn_b (f : Nat → Bool) : Nat → Int32
  | 0 => nI 0
  | k + 1 => rn_b f k ||| (if f k then nI 1 <<< (nI k &&& 31) else nI 0)
theorem rn_eq (S : Nat → Nat) : ∀ k, rn_w S k = rn_b (fun c => decide (S c = 1)) k
  | 0 => rfl
  | k + 1 => by
    show rn_w S k ||| _ = rn_b (fun c => decide (S c = 1)) k ||| _
    rw [rn_eq S k]
    by_cases h : S k = 1
    · rw [if_pos h, if_pos (decide_eq_true h)]
    · rw [if_neg h, if_neg (show ¬ decide (S k = 1) = true by rw [decide_eq_false h]; decide)]
theorem rn_all : ∀ b0 b1 b2 b3 b4 b5 b6 b7 : Bool, ∀ a, a < 8 → ((((nI 0 ||| (if b0 then nI 1 <<< (nI 0 &&& 31) else nI 0) ||| (if b1 then nI 1 <<< (nI 1 &&& 31) else nI 0) ||| (if b2 then nI 1 <<< (nI 2 &&& 31) else nI 0) ||| (if b3 then nI 1 <<< (nI 3 &&& 31) else nI 0) ||| (if b4 then nI 1 <<< (nI 4 &&& 31) else nI 0) ||| (if b5 then nI 1 <<< (nI 5 &&& 31) else nI 0) ||| (if b6 then nI 1 <<< (nI 6 &&& 31) else nI 0) ||| (if b7 then nI 1 <<< (nI 7 &&& 31) else nI 0) : Int32) >>> (nI a &&& 31)) &&& nI 1) = 0 ↔ (match a with | 0 => b0 | 1 => b1 | 2 => b2 | 3 => b3 | 4 => b4 | 5 => b5 | 6 => b6 | _ => b7) = false) := by decide +kernel
theorem rn_bit (S : Nat → Nat) {a : Nat} (ha : a < 8) : ((rn_w S 8 >>> (nI a &&& 31)) &&& nI 1) = 0 ↔ ¬ S a = 1 := by
  rw [rn_eq]
  have h := rn_all (decide (S 0 = 1)) (decide (S 1 = 1)) (decide (S 2 = 1)) (decide (S 3 = 1)) (decide (S 4 = 1)) (decide (S 5 = 1)) (decide (S 6 = 1)) (decide (S 7 = 1)) a ha
  refine Iff.trans h ?_
  rcases (show a = 0 ∨ a = 1 ∨ a = 2 ∨ a = 3 ∨ a = 4 ∨ a = 5 ∨ a = 6 ∨ a = 7 by omega) with rfl | rfl | rfl | rfl | rfl | rfl | rfl | rfl <;> exact decide_eq_false_iff_not
theorem c_running {l : Launch} {b : Nat} {x : Nat → Nat} {D : va_G} {dA : Nat → ClassId} {mm n : Nat} {S : Nat → Nat} {M : fm_M} (hn : 586 ≤ n) (hM : fm_isM mm) (hP : fm_MP M mm) (hS : ∀ a, a < 8 → M.1 (mm + 1) a = nI (S a)) (hS4 : ∀ a, a < 8 → S a ≤ 4) : Met l y_Me_running (Cond.code y_Me_running b_Me_running 3 (some .int) :: fm_T0) ({ frames := 0, cells := 0, slots := 0, locals := 0 }) (fm_Pc fm_lay fm_nf fm_fk fm_cl b x D dA (fm_tys dA) (fm_EX b x) false [.ref mm] n M) (fm_Qc fm_lay fm_nf fm_fk fm_cl b x D dA (fun r n' M' => r = some (.int (rn_w S 8)) ∧ n' = n ∧ M' = M)) 0 0 (fm_A b) := by
  refine fm_enter (by decide) (Nat.le_of_ble_eq_true rfl) ?_
  intro p e s m args below meth c9 hc hr hnm hex htg
  have hlo := isM_lo hM
  refine fm_iconst (v := nI 0) hc d_Me_running_0 rfl ?_
  refine fm_istore_n (lv' := [(1, .int (nI 0)), (0, .ref mm)]) hc d_Me_running_1 rfl (by decide) rfl ?_
  refine fm_iconst (v := nI 0) hc d_Me_running_2 rfl ?_
  refine fm_istore_n (lv' := [(2, .int (nI 0)), (1, .int (nI 0)), (0, .ref mm)]) hc d_Me_running_3 rfl (by decide) rfl ?_
  refine fm_loopI (N := 8) (lv := fun k => [(2, .int (nI k)), (1, .int (rn_w S k)), (0, .ref mm)]) (I := fun k M' => M' = M) (fun k Mk hk hI ih => ?_) (fun Mk hI => ?_) rfl
  · subst hI
    by_cases hs : S k = 1
    · refine fm_iload_n hc d_Me_running_4 rfl rfl ?_
      refine fm_bipush (v := nI 8) hc d_Me_running_5 rfl ?_
      refine fm_icmp_ge (tgt := 36) hc d_Me_running_7 rfl (fun g => absurd g (hnle (a := 8) (c := k) hk (by omega))) (fun _ => ?_)
      refine fm_iload_n hc d_Me_running_10 rfl rfl ?_
      refine fm_aload_n hc d_Me_running_11 rfl rfl ?_
      refine fm_getR (k := 0) (q := mm + 1) hc K_Me d_Me_running_12 q_305 rfl (by omega) (by omega) (ly_M0 hM) (by decide) (by decide) rfl hP.1 ?_
      refine fm_iload_n hc d_Me_running_15 rfl rfl ?_
      refine fm_iald (j := k) (len := 8) hc 0 d_Me_running_16 (by omega) (by omega) (ly_M hM (k := 1) (by omega)) rfl (by omega) (by decide) ?_
      refine fm_top (congrArg Value.int (hS k hk)) ?_
      refine fm_iconst (v := nI 1) hc d_Me_running_17 rfl ?_
      refine fm_icmp_ne (tgt := 27) hc d_Me_running_18 rfl (fun g => absurd (congrArg nI hs) g) (fun _ => ?_)
      refine fm_iconst (v := nI 1) hc d_Me_running_21 rfl ?_
      refine fm_iload_n hc d_Me_running_22 rfl rfl ?_
      refine fm_ishl hc d_Me_running_23 ?_
      refine fm_goto (tgt := 28) hc d_Me_running_24 rfl ?_
      refine fm_ior hc d_Me_running_28 ?_
      refine fm_top (congrArg Value.int (show _ = rn_w S k ||| (if S k = 1 then nI 1 <<< (nI k &&& 31) else nI 0) by rw [if_pos hs])) ?_
      refine fm_istore_n (lv' := [(1, .int (rn_w S (k + 1))), (2, .int (nI k)), (0, .ref mm)]) hc d_Me_running_29 rfl (by decide) rfl ?_
      refine fm_iinc (v := nI (k + 1)) (lv' := [(2, .int (nI (k + 1))), (1, .int (rn_w S (k + 1))), (0, .ref mm)]) hc d_Me_running_30 rfl (nI_1 k) (by decide) rfl ?_
      refine fm_goto (tgt := 4) hc d_Me_running_33 rfl ?_
      exact ih _ rfl
    · refine fm_iload_n hc d_Me_running_4 rfl rfl ?_
      refine fm_bipush (v := nI 8) hc d_Me_running_5 rfl ?_
      refine fm_icmp_ge (tgt := 36) hc d_Me_running_7 rfl (fun g => absurd g (hnle (a := 8) (c := k) hk (by omega))) (fun _ => ?_)
      refine fm_iload_n hc d_Me_running_10 rfl rfl ?_
      refine fm_aload_n hc d_Me_running_11 rfl rfl ?_
      refine fm_getR (k := 0) (q := mm + 1) hc K_Me d_Me_running_12 q_305 rfl (by omega) (by omega) (ly_M0 hM) (by decide) (by decide) rfl hP.1 ?_
      refine fm_iload_n hc d_Me_running_15 rfl rfl ?_
      refine fm_iald (j := k) (len := 8) hc 0 d_Me_running_16 (by omega) (by omega) (ly_M hM (k := 1) (by omega)) rfl (by omega) (by decide) ?_
      refine fm_top (congrArg Value.int (hS k hk)) ?_
      refine fm_iconst (v := nI 1) hc d_Me_running_17 rfl ?_
      refine fm_icmp_ne (tgt := 27) hc d_Me_running_18 rfl (fun _ => ?_) (fun g => absurd g (fun q => hs (nI_inj (by have := hS4 k hk; omega) (by decide) q)))
      refine fm_iconst (v := nI 0) hc d_Me_running_27 rfl ?_
      refine fm_ior hc d_Me_running_28 ?_
      refine fm_top (congrArg Value.int (show _ = rn_w S k ||| (if S k = 1 then nI 1 <<< (nI k &&& 31) else nI 0) by rw [if_neg hs])) ?_
      refine fm_istore_n (lv' := [(1, .int (rn_w S (k + 1))), (2, .int (nI k)), (0, .ref mm)]) hc d_Me_running_29 rfl (by decide) rfl ?_
      refine fm_iinc (v := nI (k + 1)) (lv' := [(2, .int (nI (k + 1))), (1, .int (rn_w S (k + 1))), (0, .ref mm)]) hc d_Me_running_30 rfl (nI_1 k) (by decide) rfl ?_
      refine fm_goto (tgt := 4) hc d_Me_running_33 rfl ?_
      exact ih _ rfl
  · subst hI
    refine fm_iload_n hc d_Me_running_4 rfl rfl ?_
    refine fm_bipush (v := nI 8) hc d_Me_running_5 rfl ?_
    refine fm_icmp_ge (tgt := 36) hc d_Me_running_7 rfl (fun _ => ?_) (fun g => absurd (by decide) g)
    refine fm_iload_n hc d_Me_running_36 rfl rfl ?_
    exact fm_iret hc hr d_Me_running_37 (Nat.le_refl _) (Nat.le_refl _) ⟨rfl, rfl, rfl⟩
