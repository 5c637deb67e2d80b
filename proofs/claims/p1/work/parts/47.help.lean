/-! THE LAW'S HELPERS: each for whatever its method does -/
theorem h_launch {l : Launch} {b : Nat} {x : Nat → Nat} {D : va_G} {dA : Nat → ClassId} {v w u : Int32} {n : Nat} {M : fm_M} {rm0 : Room} {P : Option Value → Nat → fm_M → Prop} {Xp : String → Nat → fm_M → Prop} (hn : 630 ≤ n) (hM : MetFree l y_An_launch (headSpec (Cond.code y_An_launch b_An_launch 6 (some .int) :: fm_T0) rm0) (fm_Pc fm_lay fm_nf fm_fk fm_cl b x D dA (fm_tys dA) (fm_EX b x) false [.ref 8, .int v, .int w, .int u] n M) (fun _ _ _ _ _ => True) (fx_Q fm_lay fm_nf fm_fk fm_cl b x D dA P Xp rm0.cells rm0.slots)) (hP : ∀ r n' M', P r n' M' → 630 ≤ n' ∧ ∃ t, r = some (.int t)) (hX : ∀ E n' M', Xp E n' M' → E = fx_IAE ∨ E = fx_ISE) :
    Met l y_Lw_launch (Cond.codeWith y_Lw_launch b_Lw_launch 6 (some .int) [(0, 12, 15, 13), (0, 12, 19, 15)] :: fm_T0) ({ frames := rm0.frames + 1, cells := rm0.cells, slots := rm0.slots, locals := rm0.locals + 25 }) (fm_Pc fm_lay fm_nf fm_fk fm_cl b x D dA (fm_tys dA) (fm_EX b x) false [.ref 8, .int v, .int w, .int u, .ref 629] n M) (fm_Qc fm_lay fm_nf fm_fk fm_cl b x D dA (fun r n' M' => (∃ t M1, P (some (.int t)) n' M1 ∧ r = some (.int (nI 0)) ∧ M' = fm_put2 M1 629 0 t.toInt64) ∨ (Xp fx_IAE n' M' ∧ r = some (.int (nI 1))) ∨ (Xp fx_ISE n' M' ∧ r = some (.int (nI 2))))) rm0.cells rm0.slots (fm_A b) := by
  refine fm_enterW (by decide) (Nat.le_of_ble_eq_true rfl) ?_
  intro p e s m args below meth c hc hr hnm hex htg htab
  refine fm_aload hc d_Lw_launch_0 rfl ?_
  refine fm_iconst (v := nI 0) hc d_Lw_launch_2 rfl ?_
  refine fm_aload_n hc d_Lw_launch_3 rfl rfl ?_
  refine fm_iload_n hc d_Lw_launch_4 rfl rfl ?_
  refine fm_iload_n hc d_Lw_launch_5 rfl rfl ?_
  refine fm_iload_n hc d_Lw_launch_6 rfl rfl ?_
  refine fx_callV (av := [.int v, .int w, .int u]) (rest := [.int (nI 0), .ref 629]) (ci := 0) (y := y_An_launch) (bytes := b_An_launch) hc fm_T0_good (fm_EX_st b x) hex q_488 q_1 q_485 q_486 q_487 pd_An_launch (by decide) (by omega) (by decide) (by decide) rfl rfl hM ⟨rfl, rfl, Nat.le_refl _, by show 8 + (6 + 11) + rm0.locals ≤ rm0.locals + 25; omega⟩ ⟨Nat.le_of_eq (Nat.zero_add _), Nat.le_of_eq (Nat.zero_add _)⟩ d_Lw_launch_7 (Nat.le_of_ble_eq_true rfl) (fun r n2 M2 hp => ?_) (fun E n2 M2 hp => ?_)
  · obtain ⟨hn2, t, rfl⟩ := hP _ _ _ hp
    refine fm_st (st' := [.int t, .int (nI 0), .ref 629]) rfl ?_
    refine fm_i2l hc d_Lw_launch_10 ?_
    refine fm_last (j := 0) (len := 1) (v := t.toInt64) hc 3 d_Lw_launch_11 (by decide) (by omega) (by decide) rfl (by omega) (by decide) ?_
    refine fm_goto (tgt := 23) hc d_Lw_launch_12 rfl ?_
    refine fm_iconst (v := nI 0) hc d_Lw_launch_23 rfl ?_
    exact fm_iret hc hr d_Lw_launch_24 (Nat.le_of_eq (Nat.zero_add _)) (Nat.le_of_eq (Nat.zero_add _)) (Or.inl ⟨t, M2, hp, rfl, rfl⟩)
  · rcases hX _ _ _ hp with rfl | rfl
    · refine fx_catch (name := fx_IAE) (i := 5) hc (tableOf []) ⟨0, 12, 15, 13⟩ (tableOf [(0, 12, 19, 15)]) htab (fun w hw => by cases hw) (by decide) (by decide) q_483 (fm_Ca.of (args := #[]) (hex.2.2.2.2.1 _ (List.mem_of_getElem? (i := 0) rfl))) d_Lw_launch_15 (by decide) rfl ?_
      refine fm_iconst (v := nI 1) hc d_Lw_launch_17 rfl ?_
      exact fm_iret hc hr d_Lw_launch_18 (Nat.le_of_eq (Nat.zero_add _)) (Nat.le_of_eq (Nat.zero_add _)) (Or.inr (Or.inl ⟨hp, rfl⟩))
    · refine fx_catch (name := fx_ISE) (i := 5) hc (tableOf [(0, 12, 15, 13)]) ⟨0, 12, 19, 15⟩ (tableOf []) htab (fun w hw => by
      simp only [tableOf, List.map_cons, List.map_nil, List.mem_cons, List.not_mem_nil, or_false] at hw
      rcases hw with rfl
      · exact Or.inr ⟨by decide, fx_IAE, q_483, hex.2.2.2.2.2.2.2.2.1⟩) (by decide) (by decide) q_484 (fm_Ca.of (args := #[]) (hex.2.2.2.2.1 _ (List.mem_of_getElem? (i := 1) rfl))) d_Lw_launch_19 (by decide) rfl ?_
      refine fm_iconst (v := nI 2) hc d_Lw_launch_21 rfl ?_
      exact fm_iret hc hr d_Lw_launch_22 (Nat.le_of_eq (Nat.zero_add _)) (Nat.le_of_eq (Nat.zero_add _)) (Or.inr ((Or.inr ⟨hp, rfl⟩)))
theorem h_step {l : Launch} {b : Nat} {x : Nat → Nat} {D : va_G} {dA : Nat → ClassId} {v w : Int32} {n : Nat} {M : fm_M} {rm0 : Room} {P : Option Value → Nat → fm_M → Prop} {Xp : String → Nat → fm_M → Prop} (hn : 630 ≤ n) (hM : MetFree l y_An_step (headSpec (Cond.code y_An_step b_An_step 5 (some .int) :: fm_T0) rm0) (fm_Pc fm_lay fm_nf fm_fk fm_cl b x D dA (fm_tys dA) (fm_EX b x) false [.ref 8, .int v, .int w] n M) (fun _ _ _ _ _ => True) (fx_Q fm_lay fm_nf fm_fk fm_cl b x D dA P Xp rm0.cells rm0.slots)) (hP : ∀ r n' M', P r n' M' → 630 ≤ n' ∧ ∃ t, r = some (.int t)) (hX : ∀ E n' M', Xp E n' M' → E = fx_IAE ∨ E = fx_ISE) :
    Met l y_Lw_step (Cond.codeWith y_Lw_step b_Lw_step 5 (some .int) [(0, 10, 13, 13), (0, 10, 17, 15)] :: fm_T0) ({ frames := rm0.frames + 1, cells := rm0.cells, slots := rm0.slots, locals := rm0.locals + 24 }) (fm_Pc fm_lay fm_nf fm_fk fm_cl b x D dA (fm_tys dA) (fm_EX b x) false [.ref 8, .int v, .int w, .ref 629] n M) (fm_Qc fm_lay fm_nf fm_fk fm_cl b x D dA (fun r n' M' => (∃ t M1, P (some (.int t)) n' M1 ∧ r = some (.int (nI 0)) ∧ M' = fm_put2 M1 629 0 t.toInt64) ∨ (Xp fx_IAE n' M' ∧ r = some (.int (nI 1))) ∨ (Xp fx_ISE n' M' ∧ r = some (.int (nI 2))))) rm0.cells rm0.slots (fm_A b) := by
  refine fm_enterW (by decide) (Nat.le_of_ble_eq_true rfl) ?_
  intro p e s m args below meth c hc hr hnm hex htg htab
  refine fm_aload_n hc d_Lw_step_0 rfl rfl ?_
  refine fm_iconst (v := nI 0) hc d_Lw_step_1 rfl ?_
  refine fm_aload_n hc d_Lw_step_2 rfl rfl ?_
  refine fm_iload_n hc d_Lw_step_3 rfl rfl ?_
  refine fm_iload_n hc d_Lw_step_4 rfl rfl ?_
  refine fx_callV (av := [.int v, .int w]) (rest := [.int (nI 0), .ref 629]) (ci := 0) (y := y_An_step) (bytes := b_An_step) hc fm_T0_good (fm_EX_st b x) hex q_686 q_1 q_683 q_684 q_685 pd_An_step (by decide) (by omega) (by decide) (by decide) rfl rfl hM ⟨rfl, rfl, Nat.le_refl _, by show 8 + (5 + 11) + rm0.locals ≤ rm0.locals + 24; omega⟩ ⟨Nat.le_of_eq (Nat.zero_add _), Nat.le_of_eq (Nat.zero_add _)⟩ d_Lw_step_5 (Nat.le_of_ble_eq_true rfl) (fun r n2 M2 hp => ?_) (fun E n2 M2 hp => ?_)
  · obtain ⟨hn2, t, rfl⟩ := hP _ _ _ hp
    refine fm_st (st' := [.int t, .int (nI 0), .ref 629]) rfl ?_
    refine fm_i2l hc d_Lw_step_8 ?_
    refine fm_last (j := 0) (len := 1) (v := t.toInt64) hc 3 d_Lw_step_9 (by decide) (by omega) (by decide) rfl (by omega) (by decide) ?_
    refine fm_goto (tgt := 21) hc d_Lw_step_10 rfl ?_
    refine fm_iconst (v := nI 0) hc d_Lw_step_21 rfl ?_
    exact fm_iret hc hr d_Lw_step_22 (Nat.le_of_eq (Nat.zero_add _)) (Nat.le_of_eq (Nat.zero_add _)) (Or.inl ⟨t, M2, hp, rfl, rfl⟩)
  · rcases hX _ _ _ hp with rfl | rfl
    · refine fx_catch (name := fx_IAE) (i := 4) hc (tableOf []) ⟨0, 10, 13, 13⟩ (tableOf [(0, 10, 17, 15)]) htab (fun w hw => by cases hw) (by decide) (by decide) q_483 (fm_Ca.of (args := #[]) (hex.2.2.2.2.1 _ (List.mem_of_getElem? (i := 0) rfl))) d_Lw_step_13 (by decide) rfl ?_
      refine fm_iconst (v := nI 1) hc d_Lw_step_15 rfl ?_
      exact fm_iret hc hr d_Lw_step_16 (Nat.le_of_eq (Nat.zero_add _)) (Nat.le_of_eq (Nat.zero_add _)) (Or.inr (Or.inl ⟨hp, rfl⟩))
    · refine fx_catch (name := fx_ISE) (i := 4) hc (tableOf [(0, 10, 13, 13)]) ⟨0, 10, 17, 15⟩ (tableOf []) htab (fun w hw => by
      simp only [tableOf, List.map_cons, List.map_nil, List.mem_cons, List.not_mem_nil, or_false] at hw
      rcases hw with rfl
      · exact Or.inr ⟨by decide, fx_IAE, q_483, hex.2.2.2.2.2.2.2.2.1⟩) (by decide) (by decide) q_484 (fm_Ca.of (args := #[]) (hex.2.2.2.2.1 _ (List.mem_of_getElem? (i := 1) rfl))) d_Lw_step_17 (by decide) rfl ?_
      refine fm_iconst (v := nI 2) hc d_Lw_step_19 rfl ?_
      exact fm_iret hc hr d_Lw_step_20 (Nat.le_of_eq (Nat.zero_add _)) (Nat.le_of_eq (Nat.zero_add _)) (Or.inr ((Or.inr ⟨hp, rfl⟩)))
theorem h_tick {l : Launch} {b : Nat} {x : Nat → Nat} {D : va_G} {dA : Nat → ClassId} {v : Int32} {n : Nat} {M : fm_M} {rm0 : Room} {P : Option Value → Nat → fm_M → Prop} {Xp : String → Nat → fm_M → Prop} (hn : 630 ≤ n) (hM : MetFree l y_An_tick (headSpec (Cond.code y_An_tick b_An_tick 2 (some .int) :: fm_T0) rm0) (fm_Pc fm_lay fm_nf fm_fk fm_cl b x D dA (fm_tys dA) (fm_EX b x) false [.ref 8, .int v] n M) (fun _ _ _ _ _ => True) (fx_Q fm_lay fm_nf fm_fk fm_cl b x D dA P Xp rm0.cells rm0.slots)) (hP : ∀ r n' M', P r n' M' → 630 ≤ n' ∧ ∃ t, r = some (.int t)) (hX : ∀ E n' M', Xp E n' M' → E = fx_IAE ∨ E = fx_ISE) :
    Met l y_Lw_tick (Cond.codeWith y_Lw_tick b_Lw_tick 4 (some .int) [(0, 9, 12, 13), (0, 9, 15, 15)] :: fm_T0) ({ frames := rm0.frames + 1, cells := rm0.cells, slots := rm0.slots, locals := rm0.locals + 21 }) (fm_Pc fm_lay fm_nf fm_fk fm_cl b x D dA (fm_tys dA) (fm_EX b x) false [.ref 8, .int v, .ref 629] n M) (fm_Qc fm_lay fm_nf fm_fk fm_cl b x D dA (fun r n' M' => (∃ t M1, P (some (.int t)) n' M1 ∧ r = some (.int (nI 0)) ∧ M' = fm_put2 M1 629 0 t.toInt64) ∨ (Xp fx_IAE n' M' ∧ r = some (.int (nI 1))) ∨ (Xp fx_ISE n' M' ∧ r = some (.int (nI 2))))) rm0.cells rm0.slots (fm_A b) := by
  refine fm_enterW (by decide) (Nat.le_of_ble_eq_true rfl) ?_
  intro p e s m args below meth c hc hr hnm hex htg htab
  refine fm_aload_n hc d_Lw_tick_0 rfl rfl ?_
  refine fm_iconst (v := nI 0) hc d_Lw_tick_1 rfl ?_
  refine fm_aload_n hc d_Lw_tick_2 rfl rfl ?_
  refine fm_iload_n hc d_Lw_tick_3 rfl rfl ?_
  refine fx_callV (av := [.int v]) (rest := [.int (nI 0), .ref 629]) (ci := 0) (y := y_An_tick) (bytes := b_An_tick) hc fm_T0_good (fm_EX_st b x) hex q_709 q_1 q_706 q_707 q_708 pd_An_tick (by decide) (by omega) (by decide) (by decide) rfl rfl hM ⟨rfl, rfl, Nat.le_refl _, by show 8 + (2 + 11) + rm0.locals ≤ rm0.locals + 21; omega⟩ ⟨Nat.le_of_eq (Nat.zero_add _), Nat.le_of_eq (Nat.zero_add _)⟩ d_Lw_tick_4 (Nat.le_of_ble_eq_true rfl) (fun r n2 M2 hp => ?_) (fun E n2 M2 hp => ?_)
  · obtain ⟨hn2, t, rfl⟩ := hP _ _ _ hp
    refine fm_st (st' := [.int t, .int (nI 0), .ref 629]) rfl ?_
    refine fm_i2l hc d_Lw_tick_7 ?_
    refine fm_last (j := 0) (len := 1) (v := t.toInt64) hc 3 d_Lw_tick_8 (by decide) (by omega) (by decide) rfl (by omega) (by decide) ?_
    refine fm_goto (tgt := 18) hc d_Lw_tick_9 rfl ?_
    refine fm_iconst (v := nI 0) hc d_Lw_tick_18 rfl ?_
    exact fm_iret hc hr d_Lw_tick_19 (Nat.le_of_eq (Nat.zero_add _)) (Nat.le_of_eq (Nat.zero_add _)) (Or.inl ⟨t, M2, hp, rfl, rfl⟩)
  · rcases hX _ _ _ hp with rfl | rfl
    · refine fx_catch_n (name := fx_IAE) (i := 3) (i0 := 3) hc rfl (tableOf []) ⟨0, 9, 12, 13⟩ (tableOf [(0, 9, 15, 15)]) htab (fun w hw => by cases hw) (by decide) (by decide) q_483 (fm_Ca.of (args := #[]) (hex.2.2.2.2.1 _ (List.mem_of_getElem? (i := 0) rfl))) d_Lw_tick_12 (by decide) rfl ?_
      refine fm_iconst (v := nI 1) hc d_Lw_tick_13 rfl ?_
      exact fm_iret hc hr d_Lw_tick_14 (Nat.le_of_eq (Nat.zero_add _)) (Nat.le_of_eq (Nat.zero_add _)) (Or.inr (Or.inl ⟨hp, rfl⟩))
    · refine fx_catch_n (name := fx_ISE) (i := 3) (i0 := 3) hc rfl (tableOf [(0, 9, 12, 13)]) ⟨0, 9, 15, 15⟩ (tableOf []) htab (fun w hw => by
      simp only [tableOf, List.map_cons, List.map_nil, List.mem_cons, List.not_mem_nil, or_false] at hw
      rcases hw with rfl
      · exact Or.inr ⟨by decide, fx_IAE, q_483, hex.2.2.2.2.2.2.2.2.1⟩) (by decide) (by decide) q_484 (fm_Ca.of (args := #[]) (hex.2.2.2.2.1 _ (List.mem_of_getElem? (i := 1) rfl))) d_Lw_tick_15 (by decide) rfl ?_
      refine fm_iconst (v := nI 2) hc d_Lw_tick_16 rfl ?_
      exact fm_iret hc hr d_Lw_tick_17 (Nat.le_of_eq (Nat.zero_add _)) (Nat.le_of_eq (Nat.zero_add _)) (Or.inr ((Or.inr ⟨hp, rfl⟩)))
theorem h_checkpoint {l : Launch} {b : Nat} {x : Nat → Nat} {D : va_G} {dA : Nat → ClassId} {v : Int32} {n : Nat} {M : fm_M} {rm0 : Room} {P : Option Value → Nat → fm_M → Prop} {Xp : String → Nat → fm_M → Prop} (hn : 630 ≤ n) (hM : MetFree l y_An_checkpoint (headSpec (Cond.code y_An_checkpoint b_An_checkpoint 2 (some .int) :: fm_T0) rm0) (fm_Pc fm_lay fm_nf fm_fk fm_cl b x D dA (fm_tys dA) (fm_EX b x) false [.ref 8, .int v] n M) (fun _ _ _ _ _ => True) (fx_Q fm_lay fm_nf fm_fk fm_cl b x D dA P Xp rm0.cells rm0.slots)) (hP : ∀ r n' M', P r n' M' → 630 ≤ n' ∧ ∃ t, r = some (.int t)) (hX : ∀ E n' M', Xp E n' M' → E = fx_IAE ∨ E = fx_ISE) :
    Met l y_Lw_checkpoint (Cond.codeWith y_Lw_checkpoint b_Lw_checkpoint 4 (some .int) [(0, 9, 12, 13), (0, 9, 15, 15)] :: fm_T0) ({ frames := rm0.frames + 1, cells := rm0.cells, slots := rm0.slots, locals := rm0.locals + 21 }) (fm_Pc fm_lay fm_nf fm_fk fm_cl b x D dA (fm_tys dA) (fm_EX b x) false [.ref 8, .int v, .ref 629] n M) (fm_Qc fm_lay fm_nf fm_fk fm_cl b x D dA (fun r n' M' => (∃ t M1, P (some (.int t)) n' M1 ∧ r = some (.int (nI 0)) ∧ M' = fm_put2 M1 629 0 t.toInt64) ∨ (Xp fx_IAE n' M' ∧ r = some (.int (nI 1))) ∨ (Xp fx_ISE n' M' ∧ r = some (.int (nI 2))))) rm0.cells rm0.slots (fm_A b) := by
  refine fm_enterW (by decide) (Nat.le_of_ble_eq_true rfl) ?_
  intro p e s m args below meth c hc hr hnm hex htg htab
  refine fm_aload_n hc d_Lw_checkpoint_0 rfl rfl ?_
  refine fm_iconst (v := nI 0) hc d_Lw_checkpoint_1 rfl ?_
  refine fm_aload_n hc d_Lw_checkpoint_2 rfl rfl ?_
  refine fm_iload_n hc d_Lw_checkpoint_3 rfl rfl ?_
  refine fx_callV (av := [.int v]) (rest := [.int (nI 0), .ref 629]) (ci := 0) (y := y_An_checkpoint) (bytes := b_An_checkpoint) hc fm_T0_good (fm_EX_st b x) hex q_754 q_1 q_751 q_752 q_753 pd_An_checkpoint (by decide) (by omega) (by decide) (by decide) rfl rfl hM ⟨rfl, rfl, Nat.le_refl _, by show 8 + (2 + 11) + rm0.locals ≤ rm0.locals + 21; omega⟩ ⟨Nat.le_of_eq (Nat.zero_add _), Nat.le_of_eq (Nat.zero_add _)⟩ d_Lw_checkpoint_4 (Nat.le_of_ble_eq_true rfl) (fun r n2 M2 hp => ?_) (fun E n2 M2 hp => ?_)
  · obtain ⟨hn2, t, rfl⟩ := hP _ _ _ hp
    refine fm_st (st' := [.int t, .int (nI 0), .ref 629]) rfl ?_
    refine fm_i2l hc d_Lw_checkpoint_7 ?_
    refine fm_last (j := 0) (len := 1) (v := t.toInt64) hc 3 d_Lw_checkpoint_8 (by decide) (by omega) (by decide) rfl (by omega) (by decide) ?_
    refine fm_goto (tgt := 18) hc d_Lw_checkpoint_9 rfl ?_
    refine fm_iconst (v := nI 0) hc d_Lw_checkpoint_18 rfl ?_
    exact fm_iret hc hr d_Lw_checkpoint_19 (Nat.le_of_eq (Nat.zero_add _)) (Nat.le_of_eq (Nat.zero_add _)) (Or.inl ⟨t, M2, hp, rfl, rfl⟩)
  · rcases hX _ _ _ hp with rfl | rfl
    · refine fx_catch_n (name := fx_IAE) (i := 3) (i0 := 3) hc rfl (tableOf []) ⟨0, 9, 12, 13⟩ (tableOf [(0, 9, 15, 15)]) htab (fun w hw => by cases hw) (by decide) (by decide) q_483 (fm_Ca.of (args := #[]) (hex.2.2.2.2.1 _ (List.mem_of_getElem? (i := 0) rfl))) d_Lw_checkpoint_12 (by decide) rfl ?_
      refine fm_iconst (v := nI 1) hc d_Lw_checkpoint_13 rfl ?_
      exact fm_iret hc hr d_Lw_checkpoint_14 (Nat.le_of_eq (Nat.zero_add _)) (Nat.le_of_eq (Nat.zero_add _)) (Or.inr (Or.inl ⟨hp, rfl⟩))
    · refine fx_catch_n (name := fx_ISE) (i := 3) (i0 := 3) hc rfl (tableOf [(0, 9, 12, 13)]) ⟨0, 9, 15, 15⟩ (tableOf []) htab (fun w hw => by
      simp only [tableOf, List.map_cons, List.map_nil, List.mem_cons, List.not_mem_nil, or_false] at hw
      rcases hw with rfl
      · exact Or.inr ⟨by decide, fx_IAE, q_483, hex.2.2.2.2.2.2.2.2.1⟩) (by decide) (by decide) q_484 (fm_Ca.of (args := #[]) (hex.2.2.2.2.1 _ (List.mem_of_getElem? (i := 1) rfl))) d_Lw_checkpoint_15 (by decide) rfl ?_
      refine fm_iconst (v := nI 2) hc d_Lw_checkpoint_16 rfl ?_
      exact fm_iret hc hr d_Lw_checkpoint_17 (Nat.le_of_eq (Nat.zero_add _)) (Nat.le_of_eq (Nat.zero_add _)) (Or.inr ((Or.inr ⟨hp, rfl⟩)))
theorem h_write {l : Launch} {b : Nat} {x : Nat → Nat} {D : va_G} {dA : Nat → ClassId} {v w : Int32} {n : Nat} {M : fm_M} {rm0 : Room} {P : Option Value → Nat → fm_M → Prop} {Xp : String → Nat → fm_M → Prop} (hn : 630 ≤ n) (hM : MetFree l y_An_write (headSpec (Cond.code y_An_write b_An_write 4 (some .int) :: fm_T0) rm0) (fm_Pc fm_lay fm_nf fm_fk fm_cl b x D dA (fm_tys dA) (fm_EX b x) false [.ref 8, .int v, .int w] n M) (fun _ _ _ _ _ => True) (fx_Q fm_lay fm_nf fm_fk fm_cl b x D dA P Xp rm0.cells rm0.slots)) (hP : ∀ r n' M', P r n' M' → 630 ≤ n' ∧ ∃ t, r = some (.int t)) (hX : ∀ E n' M', Xp E n' M' → E = fx_IAE ∨ E = fx_ISE) :
    Met l y_Lw_write (Cond.codeWith y_Lw_write b_Lw_write 5 (some .int) [(0, 10, 13, 13), (0, 10, 17, 15)] :: fm_T0) ({ frames := rm0.frames + 1, cells := rm0.cells, slots := rm0.slots, locals := rm0.locals + 23 }) (fm_Pc fm_lay fm_nf fm_fk fm_cl b x D dA (fm_tys dA) (fm_EX b x) false [.ref 8, .int v, .int w, .ref 629] n M) (fm_Qc fm_lay fm_nf fm_fk fm_cl b x D dA (fun r n' M' => (∃ t M1, P (some (.int t)) n' M1 ∧ r = some (.int (nI 0)) ∧ M' = fm_put2 M1 629 0 t.toInt64) ∨ (Xp fx_IAE n' M' ∧ r = some (.int (nI 1))) ∨ (Xp fx_ISE n' M' ∧ r = some (.int (nI 2))))) rm0.cells rm0.slots (fm_A b) := by
  refine fm_enterW (by decide) (Nat.le_of_ble_eq_true rfl) ?_
  intro p e s m args below meth c hc hr hnm hex htg htab
  refine fm_aload_n hc d_Lw_write_0 rfl rfl ?_
  refine fm_iconst (v := nI 0) hc d_Lw_write_1 rfl ?_
  refine fm_aload_n hc d_Lw_write_2 rfl rfl ?_
  refine fm_iload_n hc d_Lw_write_3 rfl rfl ?_
  refine fm_iload_n hc d_Lw_write_4 rfl rfl ?_
  refine fx_callV (av := [.int v, .int w]) (rest := [.int (nI 0), .ref 629]) (ci := 0) (y := y_An_write) (bytes := b_An_write) hc fm_T0_good (fm_EX_st b x) hex q_780 q_1 q_777 q_778 q_779 pd_An_write (by decide) (by omega) (by decide) (by decide) rfl rfl hM ⟨rfl, rfl, Nat.le_refl _, by show 8 + (4 + 11) + rm0.locals ≤ rm0.locals + 23; omega⟩ ⟨Nat.le_of_eq (Nat.zero_add _), Nat.le_of_eq (Nat.zero_add _)⟩ d_Lw_write_5 (Nat.le_of_ble_eq_true rfl) (fun r n2 M2 hp => ?_) (fun E n2 M2 hp => ?_)
  · obtain ⟨hn2, t, rfl⟩ := hP _ _ _ hp
    refine fm_st (st' := [.int t, .int (nI 0), .ref 629]) rfl ?_
    refine fm_i2l hc d_Lw_write_8 ?_
    refine fm_last (j := 0) (len := 1) (v := t.toInt64) hc 3 d_Lw_write_9 (by decide) (by omega) (by decide) rfl (by omega) (by decide) ?_
    refine fm_goto (tgt := 21) hc d_Lw_write_10 rfl ?_
    refine fm_iconst (v := nI 0) hc d_Lw_write_21 rfl ?_
    exact fm_iret hc hr d_Lw_write_22 (Nat.le_of_eq (Nat.zero_add _)) (Nat.le_of_eq (Nat.zero_add _)) (Or.inl ⟨t, M2, hp, rfl, rfl⟩)
  · rcases hX _ _ _ hp with rfl | rfl
    · refine fx_catch (name := fx_IAE) (i := 4) hc (tableOf []) ⟨0, 10, 13, 13⟩ (tableOf [(0, 10, 17, 15)]) htab (fun w hw => by cases hw) (by decide) (by decide) q_483 (fm_Ca.of (args := #[]) (hex.2.2.2.2.1 _ (List.mem_of_getElem? (i := 0) rfl))) d_Lw_write_13 (by decide) rfl ?_
      refine fm_iconst (v := nI 1) hc d_Lw_write_15 rfl ?_
      exact fm_iret hc hr d_Lw_write_16 (Nat.le_of_eq (Nat.zero_add _)) (Nat.le_of_eq (Nat.zero_add _)) (Or.inr (Or.inl ⟨hp, rfl⟩))
    · refine fx_catch (name := fx_ISE) (i := 4) hc (tableOf [(0, 10, 13, 13)]) ⟨0, 10, 17, 15⟩ (tableOf []) htab (fun w hw => by
      simp only [tableOf, List.map_cons, List.map_nil, List.mem_cons, List.not_mem_nil, or_false] at hw
      rcases hw with rfl
      · exact Or.inr ⟨by decide, fx_IAE, q_483, hex.2.2.2.2.2.2.2.2.1⟩) (by decide) (by decide) q_484 (fm_Ca.of (args := #[]) (hex.2.2.2.2.1 _ (List.mem_of_getElem? (i := 1) rfl))) d_Lw_write_17 (by decide) rfl ?_
      refine fm_iconst (v := nI 2) hc d_Lw_write_19 rfl ?_
      exact fm_iret hc hr d_Lw_write_20 (Nat.le_of_eq (Nat.zero_add _)) (Nat.le_of_eq (Nat.zero_add _)) (Or.inr ((Or.inr ⟨hp, rfl⟩)))
theorem h_crash {l : Launch} {b : Nat} {x : Nat → Nat} {D : va_G} {dA : Nat → ClassId} {v : Int32} {n : Nat} {M : fm_M} {rm0 : Room} {P : Option Value → Nat → fm_M → Prop} {Xp : String → Nat → fm_M → Prop} (hn : 630 ≤ n) (hM : MetFree l y_An_crash (headSpec (Cond.code y_An_crash b_An_crash 2 (some .boolean) :: fm_T0) rm0) (fm_Pc fm_lay fm_nf fm_fk fm_cl b x D dA (fm_tys dA) (fm_EX b x) false [.ref 8, .int v] n M) (fun _ _ _ _ _ => True) (fx_Q fm_lay fm_nf fm_fk fm_cl b x D dA P Xp rm0.cells rm0.slots)) (hP : ∀ r n' M', P r n' M' → 630 ≤ n' ∧ ∃ t, r = some (.int t)) (hX : ∀ E n' M', Xp E n' M' → E = fx_IAE) :
    Met l y_Lw_crash (Cond.codeWith y_Lw_crash b_Lw_crash 4 (some .int) [(0, 16, 19, 13)] :: fm_T0) ({ frames := rm0.frames + 1, cells := rm0.cells, slots := rm0.slots, locals := rm0.locals + 21 }) (fm_Pc fm_lay fm_nf fm_fk fm_cl b x D dA (fm_tys dA) (fm_EX b x) false [.ref 8, .int v, .ref 629] n M) (fm_Qc fm_lay fm_nf fm_fk fm_cl b x D dA (fun r n' M' => (∃ t M1, P (some (.int t)) n' M1 ∧ r = some (.int (nI 0)) ∧ M' = fm_put2 M1 629 0 (if t = 0 then 0 else 1)) ∨ (Xp fx_IAE n' M' ∧ r = some (.int (nI 1))))) rm0.cells rm0.slots (fm_A b) := by
  refine fm_enterW (by decide) (Nat.le_of_ble_eq_true rfl) ?_
  intro p e s m args below meth c hc hr hnm hex htg htab
  refine fm_aload_n hc d_Lw_crash_0 rfl rfl ?_
  refine fm_iconst (v := nI 0) hc d_Lw_crash_1 rfl ?_
  refine fm_aload_n hc d_Lw_crash_2 rfl rfl ?_
  refine fm_iload_n hc d_Lw_crash_3 rfl rfl ?_
  refine fx_callV (av := [.int v]) (rest := [.int (nI 0), .ref 629]) (ci := 0) (y := y_An_crash) (bytes := b_An_crash) hc fm_T0_good (fm_EX_st b x) hex q_803 q_1 q_800 q_801 q_802 pd_An_crash (by decide) (by omega) (by decide) (by decide) rfl rfl hM ⟨rfl, rfl, Nat.le_refl _, by show 8 + (2 + 11) + rm0.locals ≤ rm0.locals + 21; omega⟩ ⟨Nat.le_of_eq (Nat.zero_add _), Nat.le_of_eq (Nat.zero_add _)⟩ d_Lw_crash_4 (Nat.le_of_ble_eq_true rfl) (fun r n2 M2 hp => ?_) (fun E n2 M2 hp => ?_)
  · obtain ⟨hn2, t, rfl⟩ := hP _ _ _ hp
    refine fm_st (st' := [.int t, .int (nI 0), .ref 629]) rfl ?_
    refine fm_if_eq (tgt := 14) hc d_Lw_crash_7 rfl (fun g => ?_) (fun g => ?_)
    · refine fm_lconst (v := 0) hc d_Lw_crash_14 rfl ?_
      refine fm_last (j := 0) (len := 1) (v := 0) hc 3 d_Lw_crash_15 (by decide) (by omega) (by decide) rfl (by omega) (by decide) ?_
      refine fm_goto (tgt := 22) hc d_Lw_crash_16 rfl ?_
      refine fm_iconst (v := nI 0) hc d_Lw_crash_22 rfl ?_
      exact fm_iret hc hr d_Lw_crash_23 (Nat.le_of_eq (Nat.zero_add _)) (Nat.le_of_eq (Nat.zero_add _)) (Or.inl ⟨t, M2, hp, rfl, by rw [if_pos g]⟩)
    · refine fm_lconst (v := 1) hc d_Lw_crash_10 rfl ?_
      refine fm_goto (tgt := 15) hc d_Lw_crash_11 rfl ?_
      refine fm_last (j := 0) (len := 1) (v := 1) hc 3 d_Lw_crash_15 (by decide) (by omega) (by decide) rfl (by omega) (by decide) ?_
      refine fm_goto (tgt := 22) hc d_Lw_crash_16 rfl ?_
      refine fm_iconst (v := nI 0) hc d_Lw_crash_22 rfl ?_
      exact fm_iret hc hr d_Lw_crash_23 (Nat.le_of_eq (Nat.zero_add _)) (Nat.le_of_eq (Nat.zero_add _)) (Or.inl ⟨t, M2, hp, rfl, by rw [if_neg g]⟩)
  · rcases hX _ _ _ hp with rfl
    · refine fx_catch_n (name := fx_IAE) (i := 3) (i0 := 3) hc rfl (tableOf []) ⟨0, 16, 19, 13⟩ (tableOf []) htab (fun w hw => by cases hw) (by decide) (by decide) q_483 (fm_Ca.of (args := #[]) (hex.2.2.2.2.1 _ (List.mem_of_getElem? (i := 0) rfl))) d_Lw_crash_19 (by decide) rfl ?_
      refine fm_iconst (v := nI 1) hc d_Lw_crash_20 rfl ?_
      exact fm_iret hc hr d_Lw_crash_21 (Nat.le_of_eq (Nat.zero_add _)) (Nat.le_of_eq (Nat.zero_add _)) (Or.inr (⟨hp, rfl⟩))
theorem h_start {l : Launch} {b : Nat} {x : Nat → Nat} {D : va_G} {dA : Nat → ClassId} {v : Int32} {n : Nat} {M : fm_M} {rm0 : Room} {P : Option Value → Nat → fm_M → Prop} {Xp : String → Nat → fm_M → Prop} (hn : 630 ≤ n) (hM : MetFree l y_An_start (headSpec (Cond.code y_An_start b_An_start 2 (some .boolean) :: fm_T0) rm0) (fm_Pc fm_lay fm_nf fm_fk fm_cl b x D dA (fm_tys dA) (fm_EX b x) false [.ref 8, .int v] n M) (fun _ _ _ _ _ => True) (fx_Q fm_lay fm_nf fm_fk fm_cl b x D dA P Xp rm0.cells rm0.slots)) (hP : ∀ r n' M', P r n' M' → 630 ≤ n' ∧ ∃ t, r = some (.int t)) (hX : ∀ E n' M', Xp E n' M' → E = fx_IAE) :
    Met l y_Lw_start (Cond.codeWith y_Lw_start b_Lw_start 4 (some .int) [(0, 16, 19, 13)] :: fm_T0) ({ frames := rm0.frames + 1, cells := rm0.cells, slots := rm0.slots, locals := rm0.locals + 21 }) (fm_Pc fm_lay fm_nf fm_fk fm_cl b x D dA (fm_tys dA) (fm_EX b x) false [.ref 8, .int v, .ref 629] n M) (fm_Qc fm_lay fm_nf fm_fk fm_cl b x D dA (fun r n' M' => (∃ t M1, P (some (.int t)) n' M1 ∧ r = some (.int (nI 0)) ∧ M' = fm_put2 M1 629 0 (if t = 0 then 0 else 1)) ∨ (Xp fx_IAE n' M' ∧ r = some (.int (nI 1))))) rm0.cells rm0.slots (fm_A b) := by
  refine fm_enterW (by decide) (Nat.le_of_ble_eq_true rfl) ?_
  intro p e s m args below meth c hc hr hnm hex htg htab
  refine fm_aload_n hc d_Lw_start_0 rfl rfl ?_
  refine fm_iconst (v := nI 0) hc d_Lw_start_1 rfl ?_
  refine fm_aload_n hc d_Lw_start_2 rfl rfl ?_
  refine fm_iload_n hc d_Lw_start_3 rfl rfl ?_
  refine fx_callV (av := [.int v]) (rest := [.int (nI 0), .ref 629]) (ci := 0) (y := y_An_start) (bytes := b_An_start) hc fm_T0_good (fm_EX_st b x) hex q_814 q_1 q_811 q_812 q_813 pd_An_start (by decide) (by omega) (by decide) (by decide) rfl rfl hM ⟨rfl, rfl, Nat.le_refl _, by show 8 + (2 + 11) + rm0.locals ≤ rm0.locals + 21; omega⟩ ⟨Nat.le_of_eq (Nat.zero_add _), Nat.le_of_eq (Nat.zero_add _)⟩ d_Lw_start_4 (Nat.le_of_ble_eq_true rfl) (fun r n2 M2 hp => ?_) (fun E n2 M2 hp => ?_)
  · obtain ⟨hn2, t, rfl⟩ := hP _ _ _ hp
    refine fm_st (st' := [.int t, .int (nI 0), .ref 629]) rfl ?_
    refine fm_if_eq (tgt := 14) hc d_Lw_start_7 rfl (fun g => ?_) (fun g => ?_)
    · refine fm_lconst (v := 0) hc d_Lw_start_14 rfl ?_
      refine fm_last (j := 0) (len := 1) (v := 0) hc 3 d_Lw_start_15 (by decide) (by omega) (by decide) rfl (by omega) (by decide) ?_
      refine fm_goto (tgt := 22) hc d_Lw_start_16 rfl ?_
      refine fm_iconst (v := nI 0) hc d_Lw_start_22 rfl ?_
      exact fm_iret hc hr d_Lw_start_23 (Nat.le_of_eq (Nat.zero_add _)) (Nat.le_of_eq (Nat.zero_add _)) (Or.inl ⟨t, M2, hp, rfl, by rw [if_pos g]⟩)
    · refine fm_lconst (v := 1) hc d_Lw_start_10 rfl ?_
      refine fm_goto (tgt := 15) hc d_Lw_start_11 rfl ?_
      refine fm_last (j := 0) (len := 1) (v := 1) hc 3 d_Lw_start_15 (by decide) (by omega) (by decide) rfl (by omega) (by decide) ?_
      refine fm_goto (tgt := 22) hc d_Lw_start_16 rfl ?_
      refine fm_iconst (v := nI 0) hc d_Lw_start_22 rfl ?_
      exact fm_iret hc hr d_Lw_start_23 (Nat.le_of_eq (Nat.zero_add _)) (Nat.le_of_eq (Nat.zero_add _)) (Or.inl ⟨t, M2, hp, rfl, by rw [if_neg g]⟩)
  · rcases hX _ _ _ hp with rfl
    · refine fx_catch_n (name := fx_IAE) (i := 3) (i0 := 3) hc rfl (tableOf []) ⟨0, 16, 19, 13⟩ (tableOf []) htab (fun w hw => by cases hw) (by decide) (by decide) q_483 (fm_Ca.of (args := #[]) (hex.2.2.2.2.1 _ (List.mem_of_getElem? (i := 0) rfl))) d_Lw_start_19 (by decide) rfl ?_
      refine fm_iconst (v := nI 1) hc d_Lw_start_20 rfl ?_
      exact fm_iret hc hr d_Lw_start_21 (Nat.le_of_eq (Nat.zero_add _)) (Nat.le_of_eq (Nat.zero_add _)) (Or.inr (⟨hp, rfl⟩))
theorem h_net {l : Launch} {b : Nat} {x : Nat → Nat} {D : va_G} {dA : Nat → ClassId} {v w : Int32} {n : Nat} {M : fm_M} {rm0 : Room} {P : Option Value → Nat → fm_M → Prop} {Xp : String → Nat → fm_M → Prop} (hn : 630 ≤ n) (hM : MetFree l y_An_net (headSpec (Cond.code y_An_net b_An_net 4 (some .int) :: fm_T0) rm0) (fm_Pc fm_lay fm_nf fm_fk fm_cl b x D dA (fm_tys dA) (fm_EX b x) false [.ref 8, .int v, .int w] n M) (fun _ _ _ _ _ => True) (fx_Q fm_lay fm_nf fm_fk fm_cl b x D dA P Xp rm0.cells rm0.slots)) (hP : ∀ r n' M', P r n' M' → 630 ≤ n' ∧ ∃ t, r = some (.int t)) (hX : ∀ E n' M', Xp E n' M' → E = fx_IAE ∨ E = fx_IOE ∨ E = fx_ISE) :
    Met l y_Lw_net (Cond.codeWith y_Lw_net b_Lw_net 5 (some .int) [(0, 10, 13, 13), (0, 10, 17, 41), (0, 10, 21, 15)] :: fm_T0) ({ frames := rm0.frames + 1, cells := rm0.cells, slots := rm0.slots, locals := rm0.locals + 23 }) (fm_Pc fm_lay fm_nf fm_fk fm_cl b x D dA (fm_tys dA) (fm_EX b x) false [.ref 8, .int v, .int w, .ref 629] n M) (fm_Qc fm_lay fm_nf fm_fk fm_cl b x D dA (fun r n' M' => (∃ t M1, P (some (.int t)) n' M1 ∧ r = some (.int (nI 0)) ∧ M' = fm_put2 M1 629 0 t.toInt64) ∨ (Xp fx_IAE n' M' ∧ r = some (.int (nI 1))) ∨ (Xp fx_IOE n' M' ∧ r = some (.int (nI 2))) ∨ (Xp fx_ISE n' M' ∧ r = some (.int (nI 3))))) rm0.cells rm0.slots (fm_A b) := by
  refine fm_enterW (by decide) (Nat.le_of_ble_eq_true rfl) ?_
  intro p e s m args below meth c hc hr hnm hex htg htab
  refine fm_aload_n hc d_Lw_net_0 rfl rfl ?_
  refine fm_iconst (v := nI 0) hc d_Lw_net_1 rfl ?_
  refine fm_aload_n hc d_Lw_net_2 rfl rfl ?_
  refine fm_iload_n hc d_Lw_net_3 rfl rfl ?_
  refine fm_iload_n hc d_Lw_net_4 rfl rfl ?_
  refine fx_callV (av := [.int v, .int w]) (rest := [.int (nI 0), .ref 629]) (ci := 0) (y := y_An_net) (bytes := b_An_net) hc fm_T0_good (fm_EX_st b x) hex q_826 q_1 q_823 q_824 q_825 pd_An_net (by decide) (by omega) (by decide) (by decide) rfl rfl hM ⟨rfl, rfl, Nat.le_refl _, by show 8 + (4 + 11) + rm0.locals ≤ rm0.locals + 23; omega⟩ ⟨Nat.le_of_eq (Nat.zero_add _), Nat.le_of_eq (Nat.zero_add _)⟩ d_Lw_net_5 (Nat.le_of_ble_eq_true rfl) (fun r n2 M2 hp => ?_) (fun E n2 M2 hp => ?_)
  · obtain ⟨hn2, t, rfl⟩ := hP _ _ _ hp
    refine fm_st (st' := [.int t, .int (nI 0), .ref 629]) rfl ?_
    refine fm_i2l hc d_Lw_net_8 ?_
    refine fm_last (j := 0) (len := 1) (v := t.toInt64) hc 3 d_Lw_net_9 (by decide) (by omega) (by decide) rfl (by omega) (by decide) ?_
    refine fm_goto (tgt := 25) hc d_Lw_net_10 rfl ?_
    refine fm_iconst (v := nI 0) hc d_Lw_net_25 rfl ?_
    exact fm_iret hc hr d_Lw_net_26 (Nat.le_of_eq (Nat.zero_add _)) (Nat.le_of_eq (Nat.zero_add _)) (Or.inl ⟨t, M2, hp, rfl, rfl⟩)
  · rcases hX _ _ _ hp with rfl | rfl | rfl
    · refine fx_catch (name := fx_IAE) (i := 4) hc (tableOf []) ⟨0, 10, 13, 13⟩ (tableOf [(0, 10, 17, 41), (0, 10, 21, 15)]) htab (fun w hw => by cases hw) (by decide) (by decide) q_483 (fm_Ca.of (args := #[]) (hex.2.2.2.2.1 _ (List.mem_of_getElem? (i := 0) rfl))) d_Lw_net_13 (by decide) rfl ?_
      refine fm_iconst (v := nI 1) hc d_Lw_net_15 rfl ?_
      exact fm_iret hc hr d_Lw_net_16 (Nat.le_of_eq (Nat.zero_add _)) (Nat.le_of_eq (Nat.zero_add _)) (Or.inr (Or.inl ⟨hp, rfl⟩))
    · refine fx_catch (name := fx_IOE) (i := 4) hc (tableOf [(0, 10, 13, 13)]) ⟨0, 10, 17, 41⟩ (tableOf [(0, 10, 21, 15)]) htab (fun w hw => by
      simp only [tableOf, List.map_cons, List.map_nil, List.mem_cons, List.not_mem_nil, or_false] at hw
      rcases hw with rfl
      · exact Or.inr ⟨by decide, fx_IAE, q_483, hex.2.2.2.2.2.2.2.2.2.2.1⟩) (by decide) (by decide) q_822 (fm_Ca.of (args := #[]) (hex.2.2.2.2.1 _ (List.mem_of_getElem? (i := 2) rfl))) d_Lw_net_17 (by decide) rfl ?_
      refine fm_iconst (v := nI 2) hc d_Lw_net_19 rfl ?_
      exact fm_iret hc hr d_Lw_net_20 (Nat.le_of_eq (Nat.zero_add _)) (Nat.le_of_eq (Nat.zero_add _)) (Or.inr ((Or.inr (Or.inl ⟨hp, rfl⟩))))
    · refine fx_catch (name := fx_ISE) (i := 4) hc (tableOf [(0, 10, 13, 13), (0, 10, 17, 41)]) ⟨0, 10, 21, 15⟩ (tableOf []) htab (fun w hw => by
      simp only [tableOf, List.map_cons, List.map_nil, List.mem_cons, List.not_mem_nil, or_false] at hw
      rcases hw with rfl | rfl
      · exact Or.inr ⟨by decide, fx_IAE, q_483, hex.2.2.2.2.2.2.2.2.1⟩
      · exact Or.inr ⟨by decide, fx_IOE, q_822, hex.2.2.2.2.2.2.2.2.2.1⟩) (by decide) (by decide) q_484 (fm_Ca.of (args := #[]) (hex.2.2.2.2.1 _ (List.mem_of_getElem? (i := 1) rfl))) d_Lw_net_21 (by decide) rfl ?_
      refine fm_iconst (v := nI 3) hc d_Lw_net_23 rfl ?_
      exact fm_iret hc hr d_Lw_net_24 (Nat.le_of_eq (Nat.zero_add _)) (Nat.le_of_eq (Nat.zero_add _)) (Or.inr ((Or.inr (Or.inr ⟨hp, rfl⟩))))
