/-! helpers of the law, case by case; what a fresh pair of objects holds -/
theorem k_launch_x1 {l : Launch} {b : Nat} {x : Nat → Nat} {D : va_G} {dA : Nat → ClassId} {v w u : Int32} {M : fm_M} {rm0 : Room} (hM : MetFree l y_An_launch (headSpec (Cond.code y_An_launch b_An_launch 6 (some .int) :: fm_T0) rm0) (fm_Pc fm_lay fm_nf fm_fk fm_cl b x D dA (fm_tys dA) (fm_EX b x) false [.ref 8, .int v, .int w, .int u] 630 M) (fun _ _ _ _ _ => True) (fx_Q fm_lay fm_nf fm_fk fm_cl b x D dA (fun _ _ _ => False) (fun E n' M' => E = fx_IAE ∧ n' = 630 ∧ M' = M) rm0.cells rm0.slots)) : Met l y_Lw_launch (Cond.codeWith y_Lw_launch b_Lw_launch 6 (some .int) [(0, 12, 15, 13), (0, 12, 19, 15)] :: fm_T0) ({ frames := rm0.frames + 1, cells := rm0.cells, slots := rm0.slots, locals := rm0.locals + 25 }) (fm_Pc fm_lay fm_nf fm_fk fm_cl b x D dA (fm_tys dA) (fm_EX b x) false [.ref 8, .int v, .int w, .int u, .ref 629] 630 M) (fm_Qc fm_lay fm_nf fm_fk fm_cl b x D dA (fun r n' M' => r = some (.int (nI 1)) ∧ n' = 630 ∧ M' = M)) rm0.cells rm0.slots (fm_A b) :=
  fm_post (h_launch (by decide) hM (fun _ _ _ h => h.elim) (fun E n' M' h => Or.inl h.1)) (fun r n' M' h => by
    rcases h with ⟨t, M1, h, _⟩ | ⟨h, h9⟩ | ⟨h, h9⟩
    · exact h.elim
    · exact ⟨h9, h.2.1, h.2.2⟩
    · exact absurd h.1 (by decide))
theorem k_launch_x2 {l : Launch} {b : Nat} {x : Nat → Nat} {D : va_G} {dA : Nat → ClassId} {v w u : Int32} {M : fm_M} {rm0 : Room} (hM : MetFree l y_An_launch (headSpec (Cond.code y_An_launch b_An_launch 6 (some .int) :: fm_T0) rm0) (fm_Pc fm_lay fm_nf fm_fk fm_cl b x D dA (fm_tys dA) (fm_EX b x) false [.ref 8, .int v, .int w, .int u] 630 M) (fun _ _ _ _ _ => True) (fx_Q fm_lay fm_nf fm_fk fm_cl b x D dA (fun _ _ _ => False) (fun E n' M' => E = fx_ISE ∧ n' = 630 ∧ M' = M) rm0.cells rm0.slots)) : Met l y_Lw_launch (Cond.codeWith y_Lw_launch b_Lw_launch 6 (some .int) [(0, 12, 15, 13), (0, 12, 19, 15)] :: fm_T0) ({ frames := rm0.frames + 1, cells := rm0.cells, slots := rm0.slots, locals := rm0.locals + 25 }) (fm_Pc fm_lay fm_nf fm_fk fm_cl b x D dA (fm_tys dA) (fm_EX b x) false [.ref 8, .int v, .int w, .int u, .ref 629] 630 M) (fm_Qc fm_lay fm_nf fm_fk fm_cl b x D dA (fun r n' M' => r = some (.int (nI 2)) ∧ n' = 630 ∧ M' = M)) rm0.cells rm0.slots (fm_A b) :=
  fm_post (h_launch (by decide) hM (fun _ _ _ h => h.elim) (fun E n' M' h => Or.inr h.1)) (fun r n' M' h => by
    rcases h with ⟨t, M1, h, _⟩ | ⟨h, h9⟩ | ⟨h, h9⟩
    · exact h.elim
    · exact absurd h.1 (by decide)
    · exact ⟨h9, h.2.1, h.2.2⟩)
theorem k_launch_ok {l : Launch} {b : Nat} {x : Nat → Nat} {D : va_G} {dA : Nat → ClassId} {v w u t : Int32} {M : fm_M} {rm0 : Room} {PM : fm_M → Prop} (hM : MetFree l y_An_launch (headSpec (Cond.code y_An_launch b_An_launch 6 (some .int) :: fm_T0) rm0) (fm_Pc fm_lay fm_nf fm_fk fm_cl b x D dA (fm_tys dA) (fm_EX b x) false [.ref 8, .int v, .int w, .int u] 630 M) (fun _ _ _ _ _ => True) (fx_Q fm_lay fm_nf fm_fk fm_cl b x D dA (fun r n' M' => r = some (.int t) ∧ n' = 630 ∧ PM M' ) (fun _ _ _ => False) rm0.cells rm0.slots)) : Met l y_Lw_launch (Cond.codeWith y_Lw_launch b_Lw_launch 6 (some .int) [(0, 12, 15, 13), (0, 12, 19, 15)] :: fm_T0) ({ frames := rm0.frames + 1, cells := rm0.cells, slots := rm0.slots, locals := rm0.locals + 25 }) (fm_Pc fm_lay fm_nf fm_fk fm_cl b x D dA (fm_tys dA) (fm_EX b x) false [.ref 8, .int v, .int w, .int u, .ref 629] 630 M) (fm_Qc fm_lay fm_nf fm_fk fm_cl b x D dA (fun r n' M' => r = some (.int (nI 0)) ∧ n' = 630 ∧ ∃ M1, PM M1 ∧ M' = fm_put2 M1 629 0 t.toInt64)) rm0.cells rm0.slots (fm_A b) :=
  fm_post (h_launch (by decide) hM (fun _ _ _ h => ⟨Nat.le_of_eq h.2.1.symm, _, h.1⟩) (fun E n' M' h => h.elim)) (fun r n' M' h => by
    rcases h with ⟨t2, M1, h, h8, h9⟩ | ⟨h, h9⟩ | ⟨h, h9⟩
    · obtain ⟨e1, e2, e3⟩ := h
      cases e1
      exact ⟨h8, e2, M1, e3, h9⟩
    · exact h.elim
    · exact h.elim)
theorem k_step_x1 {l : Launch} {b : Nat} {x : Nat → Nat} {D : va_G} {dA : Nat → ClassId} {v w : Int32} {M : fm_M} {rm0 : Room} (hM : MetFree l y_An_step (headSpec (Cond.code y_An_step b_An_step 5 (some .int) :: fm_T0) rm0) (fm_Pc fm_lay fm_nf fm_fk fm_cl b x D dA (fm_tys dA) (fm_EX b x) false [.ref 8, .int v, .int w] 630 M) (fun _ _ _ _ _ => True) (fx_Q fm_lay fm_nf fm_fk fm_cl b x D dA (fun _ _ _ => False) (fun E n' M' => E = fx_IAE ∧ n' = 630 ∧ M' = M) rm0.cells rm0.slots)) : Met l y_Lw_step (Cond.codeWith y_Lw_step b_Lw_step 5 (some .int) [(0, 10, 13, 13), (0, 10, 17, 15)] :: fm_T0) ({ frames := rm0.frames + 1, cells := rm0.cells, slots := rm0.slots, locals := rm0.locals + 24 }) (fm_Pc fm_lay fm_nf fm_fk fm_cl b x D dA (fm_tys dA) (fm_EX b x) false [.ref 8, .int v, .int w, .ref 629] 630 M) (fm_Qc fm_lay fm_nf fm_fk fm_cl b x D dA (fun r n' M' => r = some (.int (nI 1)) ∧ n' = 630 ∧ M' = M)) rm0.cells rm0.slots (fm_A b) :=
  fm_post (h_step (by decide) hM (fun _ _ _ h => h.elim) (fun E n' M' h => Or.inl h.1)) (fun r n' M' h => by
    rcases h with ⟨t, M1, h, _⟩ | ⟨h, h9⟩ | ⟨h, h9⟩
    · exact h.elim
    · exact ⟨h9, h.2.1, h.2.2⟩
    · exact absurd h.1 (by decide))
theorem k_step_x2 {l : Launch} {b : Nat} {x : Nat → Nat} {D : va_G} {dA : Nat → ClassId} {v w : Int32} {M : fm_M} {rm0 : Room} (hM : MetFree l y_An_step (headSpec (Cond.code y_An_step b_An_step 5 (some .int) :: fm_T0) rm0) (fm_Pc fm_lay fm_nf fm_fk fm_cl b x D dA (fm_tys dA) (fm_EX b x) false [.ref 8, .int v, .int w] 630 M) (fun _ _ _ _ _ => True) (fx_Q fm_lay fm_nf fm_fk fm_cl b x D dA (fun _ _ _ => False) (fun E n' M' => E = fx_ISE ∧ n' = 630 ∧ M' = M) rm0.cells rm0.slots)) : Met l y_Lw_step (Cond.codeWith y_Lw_step b_Lw_step 5 (some .int) [(0, 10, 13, 13), (0, 10, 17, 15)] :: fm_T0) ({ frames := rm0.frames + 1, cells := rm0.cells, slots := rm0.slots, locals := rm0.locals + 24 }) (fm_Pc fm_lay fm_nf fm_fk fm_cl b x D dA (fm_tys dA) (fm_EX b x) false [.ref 8, .int v, .int w, .ref 629] 630 M) (fm_Qc fm_lay fm_nf fm_fk fm_cl b x D dA (fun r n' M' => r = some (.int (nI 2)) ∧ n' = 630 ∧ M' = M)) rm0.cells rm0.slots (fm_A b) :=
  fm_post (h_step (by decide) hM (fun _ _ _ h => h.elim) (fun E n' M' h => Or.inr h.1)) (fun r n' M' h => by
    rcases h with ⟨t, M1, h, _⟩ | ⟨h, h9⟩ | ⟨h, h9⟩
    · exact h.elim
    · exact absurd h.1 (by decide)
    · exact ⟨h9, h.2.1, h.2.2⟩)
theorem k_step_ok {l : Launch} {b : Nat} {x : Nat → Nat} {D : va_G} {dA : Nat → ClassId} {v w t : Int32} {M : fm_M} {rm0 : Room} {PM : fm_M → Prop} (hM : MetFree l y_An_step (headSpec (Cond.code y_An_step b_An_step 5 (some .int) :: fm_T0) rm0) (fm_Pc fm_lay fm_nf fm_fk fm_cl b x D dA (fm_tys dA) (fm_EX b x) false [.ref 8, .int v, .int w] 630 M) (fun _ _ _ _ _ => True) (fx_Q fm_lay fm_nf fm_fk fm_cl b x D dA (fun r n' M' => r = some (.int t) ∧ n' = 630 ∧ PM M' ) (fun _ _ _ => False) rm0.cells rm0.slots)) : Met l y_Lw_step (Cond.codeWith y_Lw_step b_Lw_step 5 (some .int) [(0, 10, 13, 13), (0, 10, 17, 15)] :: fm_T0) ({ frames := rm0.frames + 1, cells := rm0.cells, slots := rm0.slots, locals := rm0.locals + 24 }) (fm_Pc fm_lay fm_nf fm_fk fm_cl b x D dA (fm_tys dA) (fm_EX b x) false [.ref 8, .int v, .int w, .ref 629] 630 M) (fm_Qc fm_lay fm_nf fm_fk fm_cl b x D dA (fun r n' M' => r = some (.int (nI 0)) ∧ n' = 630 ∧ ∃ M1, PM M1 ∧ M' = fm_put2 M1 629 0 t.toInt64)) rm0.cells rm0.slots (fm_A b) :=
  fm_post (h_step (by decide) hM (fun _ _ _ h => ⟨Nat.le_of_eq h.2.1.symm, _, h.1⟩) (fun E n' M' h => h.elim)) (fun r n' M' h => by
    rcases h with ⟨t2, M1, h, h8, h9⟩ | ⟨h, h9⟩ | ⟨h, h9⟩
    · obtain ⟨e1, e2, e3⟩ := h
      cases e1
      exact ⟨h8, e2, M1, e3, h9⟩
    · exact h.elim
    · exact h.elim)
theorem k_tick_x1 {l : Launch} {b : Nat} {x : Nat → Nat} {D : va_G} {dA : Nat → ClassId} {v : Int32} {M : fm_M} {rm0 : Room} (hM : MetFree l y_An_tick (headSpec (Cond.code y_An_tick b_An_tick 2 (some .int) :: fm_T0) rm0) (fm_Pc fm_lay fm_nf fm_fk fm_cl b x D dA (fm_tys dA) (fm_EX b x) false [.ref 8, .int v] 630 M) (fun _ _ _ _ _ => True) (fx_Q fm_lay fm_nf fm_fk fm_cl b x D dA (fun _ _ _ => False) (fun E n' M' => E = fx_IAE ∧ n' = 630 ∧ M' = M) rm0.cells rm0.slots)) : Met l y_Lw_tick (Cond.codeWith y_Lw_tick b_Lw_tick 4 (some .int) [(0, 9, 12, 13), (0, 9, 15, 15)] :: fm_T0) ({ frames := rm0.frames + 1, cells := rm0.cells, slots := rm0.slots, locals := rm0.locals + 21 }) (fm_Pc fm_lay fm_nf fm_fk fm_cl b x D dA (fm_tys dA) (fm_EX b x) false [.ref 8, .int v, .ref 629] 630 M) (fm_Qc fm_lay fm_nf fm_fk fm_cl b x D dA (fun r n' M' => r = some (.int (nI 1)) ∧ n' = 630 ∧ M' = M)) rm0.cells rm0.slots (fm_A b) :=
  fm_post (h_tick (by decide) hM (fun _ _ _ h => h.elim) (fun E n' M' h => Or.inl h.1)) (fun r n' M' h => by
    rcases h with ⟨t, M1, h, _⟩ | ⟨h, h9⟩ | ⟨h, h9⟩
    · exact h.elim
    · exact ⟨h9, h.2.1, h.2.2⟩
    · exact absurd h.1 (by decide))
theorem k_tick_x2 {l : Launch} {b : Nat} {x : Nat → Nat} {D : va_G} {dA : Nat → ClassId} {v : Int32} {M : fm_M} {rm0 : Room} (hM : MetFree l y_An_tick (headSpec (Cond.code y_An_tick b_An_tick 2 (some .int) :: fm_T0) rm0) (fm_Pc fm_lay fm_nf fm_fk fm_cl b x D dA (fm_tys dA) (fm_EX b x) false [.ref 8, .int v] 630 M) (fun _ _ _ _ _ => True) (fx_Q fm_lay fm_nf fm_fk fm_cl b x D dA (fun _ _ _ => False) (fun E n' M' => E = fx_ISE ∧ n' = 630 ∧ M' = M) rm0.cells rm0.slots)) : Met l y_Lw_tick (Cond.codeWith y_Lw_tick b_Lw_tick 4 (some .int) [(0, 9, 12, 13), (0, 9, 15, 15)] :: fm_T0) ({ frames := rm0.frames + 1, cells := rm0.cells, slots := rm0.slots, locals := rm0.locals + 21 }) (fm_Pc fm_lay fm_nf fm_fk fm_cl b x D dA (fm_tys dA) (fm_EX b x) false [.ref 8, .int v, .ref 629] 630 M) (fm_Qc fm_lay fm_nf fm_fk fm_cl b x D dA (fun r n' M' => r = some (.int (nI 2)) ∧ n' = 630 ∧ M' = M)) rm0.cells rm0.slots (fm_A b) :=
  fm_post (h_tick (by decide) hM (fun _ _ _ h => h.elim) (fun E n' M' h => Or.inr h.1)) (fun r n' M' h => by
    rcases h with ⟨t, M1, h, _⟩ | ⟨h, h9⟩ | ⟨h, h9⟩
    · exact h.elim
    · exact absurd h.1 (by decide)
    · exact ⟨h9, h.2.1, h.2.2⟩)
theorem k_tick_ok {l : Launch} {b : Nat} {x : Nat → Nat} {D : va_G} {dA : Nat → ClassId} {v t : Int32} {M : fm_M} {rm0 : Room} {PM : fm_M → Prop} (hM : MetFree l y_An_tick (headSpec (Cond.code y_An_tick b_An_tick 2 (some .int) :: fm_T0) rm0) (fm_Pc fm_lay fm_nf fm_fk fm_cl b x D dA (fm_tys dA) (fm_EX b x) false [.ref 8, .int v] 630 M) (fun _ _ _ _ _ => True) (fx_Q fm_lay fm_nf fm_fk fm_cl b x D dA (fun r n' M' => r = some (.int t) ∧ n' = 630 ∧ PM M' ) (fun _ _ _ => False) rm0.cells rm0.slots)) : Met l y_Lw_tick (Cond.codeWith y_Lw_tick b_Lw_tick 4 (some .int) [(0, 9, 12, 13), (0, 9, 15, 15)] :: fm_T0) ({ frames := rm0.frames + 1, cells := rm0.cells, slots := rm0.slots, locals := rm0.locals + 21 }) (fm_Pc fm_lay fm_nf fm_fk fm_cl b x D dA (fm_tys dA) (fm_EX b x) false [.ref 8, .int v, .ref 629] 630 M) (fm_Qc fm_lay fm_nf fm_fk fm_cl b x D dA (fun r n' M' => r = some (.int (nI 0)) ∧ n' = 630 ∧ ∃ M1, PM M1 ∧ M' = fm_put2 M1 629 0 t.toInt64)) rm0.cells rm0.slots (fm_A b) :=
  fm_post (h_tick (by decide) hM (fun _ _ _ h => ⟨Nat.le_of_eq h.2.1.symm, _, h.1⟩) (fun E n' M' h => h.elim)) (fun r n' M' h => by
    rcases h with ⟨t2, M1, h, h8, h9⟩ | ⟨h, h9⟩ | ⟨h, h9⟩
    · obtain ⟨e1, e2, e3⟩ := h
      cases e1
      exact ⟨h8, e2, M1, e3, h9⟩
    · exact h.elim
    · exact h.elim)
theorem k_checkpoint_x1 {l : Launch} {b : Nat} {x : Nat → Nat} {D : va_G} {dA : Nat → ClassId} {v : Int32} {M : fm_M} {rm0 : Room} (hM : MetFree l y_An_checkpoint (headSpec (Cond.code y_An_checkpoint b_An_checkpoint 2 (some .int) :: fm_T0) rm0) (fm_Pc fm_lay fm_nf fm_fk fm_cl b x D dA (fm_tys dA) (fm_EX b x) false [.ref 8, .int v] 630 M) (fun _ _ _ _ _ => True) (fx_Q fm_lay fm_nf fm_fk fm_cl b x D dA (fun _ _ _ => False) (fun E n' M' => E = fx_IAE ∧ n' = 630 ∧ M' = M) rm0.cells rm0.slots)) : Met l y_Lw_checkpoint (Cond.codeWith y_Lw_checkpoint b_Lw_checkpoint 4 (some .int) [(0, 9, 12, 13), (0, 9, 15, 15)] :: fm_T0) ({ frames := rm0.frames + 1, cells := rm0.cells, slots := rm0.slots, locals := rm0.locals + 21 }) (fm_Pc fm_lay fm_nf fm_fk fm_cl b x D dA (fm_tys dA) (fm_EX b x) false [.ref 8, .int v, .ref 629] 630 M) (fm_Qc fm_lay fm_nf fm_fk fm_cl b x D dA (fun r n' M' => r = some (.int (nI 1)) ∧ n' = 630 ∧ M' = M)) rm0.cells rm0.slots (fm_A b) :=
  fm_post (h_checkpoint (by decide) hM (fun _ _ _ h => h.elim) (fun E n' M' h => Or.inl h.1)) (fun r n' M' h => by
    rcases h with ⟨t, M1, h, _⟩ | ⟨h, h9⟩ | ⟨h, h9⟩
    · exact h.elim
    · exact ⟨h9, h.2.1, h.2.2⟩
    · exact absurd h.1 (by decide))
theorem k_checkpoint_x2 {l : Launch} {b : Nat} {x : Nat → Nat} {D : va_G} {dA : Nat → ClassId} {v : Int32} {M : fm_M} {rm0 : Room} (hM : MetFree l y_An_checkpoint (headSpec (Cond.code y_An_checkpoint b_An_checkpoint 2 (some .int) :: fm_T0) rm0) (fm_Pc fm_lay fm_nf fm_fk fm_cl b x D dA (fm_tys dA) (fm_EX b x) false [.ref 8, .int v] 630 M) (fun _ _ _ _ _ => True) (fx_Q fm_lay fm_nf fm_fk fm_cl b x D dA (fun _ _ _ => False) (fun E n' M' => E = fx_ISE ∧ n' = 630 ∧ M' = M) rm0.cells rm0.slots)) : Met l y_Lw_checkpoint (Cond.codeWith y_Lw_checkpoint b_Lw_checkpoint 4 (some .int) [(0, 9, 12, 13), (0, 9, 15, 15)] :: fm_T0) ({ frames := rm0.frames + 1, cells := rm0.cells, slots := rm0.slots, locals := rm0.locals + 21 }) (fm_Pc fm_lay fm_nf fm_fk fm_cl b x D dA (fm_tys dA) (fm_EX b x) false [.ref 8, .int v, .ref 629] 630 M) (fm_Qc fm_lay fm_nf fm_fk fm_cl b x D dA (fun r n' M' => r = some (.int (nI 2)) ∧ n' = 630 ∧ M' = M)) rm0.cells rm0.slots (fm_A b) :=
  fm_post (h_checkpoint (by decide) hM (fun _ _ _ h => h.elim) (fun E n' M' h => Or.inr h.1)) (fun r n' M' h => by
    rcases h with ⟨t, M1, h, _⟩ | ⟨h, h9⟩ | ⟨h, h9⟩
    · exact h.elim
    · exact absurd h.1 (by decide)
    · exact ⟨h9, h.2.1, h.2.2⟩)
theorem k_checkpoint_ok {l : Launch} {b : Nat} {x : Nat → Nat} {D : va_G} {dA : Nat → ClassId} {v t : Int32} {M : fm_M} {rm0 : Room} {PM : fm_M → Prop} (hM : MetFree l y_An_checkpoint (headSpec (Cond.code y_An_checkpoint b_An_checkpoint 2 (some .int) :: fm_T0) rm0) (fm_Pc fm_lay fm_nf fm_fk fm_cl b x D dA (fm_tys dA) (fm_EX b x) false [.ref 8, .int v] 630 M) (fun _ _ _ _ _ => True) (fx_Q fm_lay fm_nf fm_fk fm_cl b x D dA (fun r n' M' => r = some (.int t) ∧ n' = 630 ∧ PM M' ) (fun _ _ _ => False) rm0.cells rm0.slots)) : Met l y_Lw_checkpoint (Cond.codeWith y_Lw_checkpoint b_Lw_checkpoint 4 (some .int) [(0, 9, 12, 13), (0, 9, 15, 15)] :: fm_T0) ({ frames := rm0.frames + 1, cells := rm0.cells, slots := rm0.slots, locals := rm0.locals + 21 }) (fm_Pc fm_lay fm_nf fm_fk fm_cl b x D dA (fm_tys dA) (fm_EX b x) false [.ref 8, .int v, .ref 629] 630 M) (fm_Qc fm_lay fm_nf fm_fk fm_cl b x D dA (fun r n' M' => r = some (.int (nI 0)) ∧ n' = 630 ∧ ∃ M1, PM M1 ∧ M' = fm_put2 M1 629 0 t.toInt64)) rm0.cells rm0.slots (fm_A b) :=
  fm_post (h_checkpoint (by decide) hM (fun _ _ _ h => ⟨Nat.le_of_eq h.2.1.symm, _, h.1⟩) (fun E n' M' h => h.elim)) (fun r n' M' h => by
    rcases h with ⟨t2, M1, h, h8, h9⟩ | ⟨h, h9⟩ | ⟨h, h9⟩
    · obtain ⟨e1, e2, e3⟩ := h
      cases e1
      exact ⟨h8, e2, M1, e3, h9⟩
    · exact h.elim
    · exact h.elim)
theorem k_write_x1 {l : Launch} {b : Nat} {x : Nat → Nat} {D : va_G} {dA : Nat → ClassId} {v w : Int32} {M : fm_M} {rm0 : Room} (hM : MetFree l y_An_write (headSpec (Cond.code y_An_write b_An_write 4 (some .int) :: fm_T0) rm0) (fm_Pc fm_lay fm_nf fm_fk fm_cl b x D dA (fm_tys dA) (fm_EX b x) false [.ref 8, .int v, .int w] 630 M) (fun _ _ _ _ _ => True) (fx_Q fm_lay fm_nf fm_fk fm_cl b x D dA (fun _ _ _ => False) (fun E n' M' => E = fx_IAE ∧ n' = 630 ∧ M' = M) rm0.cells rm0.slots)) : Met l y_Lw_write (Cond.codeWith y_Lw_write b_Lw_write 5 (some .int) [(0, 10, 13, 13), (0, 10, 17, 15)] :: fm_T0) ({ frames := rm0.frames + 1, cells := rm0.cells, slots := rm0.slots, locals := rm0.locals + 23 }) (fm_Pc fm_lay fm_nf fm_fk fm_cl b x D dA (fm_tys dA) (fm_EX b x) false [.ref 8, .int v, .int w, .ref 629] 630 M) (fm_Qc fm_lay fm_nf fm_fk fm_cl b x D dA (fun r n' M' => r = some (.int (nI 1)) ∧ n' = 630 ∧ M' = M)) rm0.cells rm0.slots (fm_A b) :=
  fm_post (h_write (by decide) hM (fun _ _ _ h => h.elim) (fun E n' M' h => Or.inl h.1)) (fun r n' M' h => by
    rcases h with ⟨t, M1, h, _⟩ | ⟨h, h9⟩ | ⟨h, h9⟩
    · exact h.elim
    · exact ⟨h9, h.2.1, h.2.2⟩
    · exact absurd h.1 (by decide))
theorem k_write_x2 {l : Launch} {b : Nat} {x : Nat → Nat} {D : va_G} {dA : Nat → ClassId} {v w : Int32} {M : fm_M} {rm0 : Room} (hM : MetFree l y_An_write (headSpec (Cond.code y_An_write b_An_write 4 (some .int) :: fm_T0) rm0) (fm_Pc fm_lay fm_nf fm_fk fm_cl b x D dA (fm_tys dA) (fm_EX b x) false [.ref 8, .int v, .int w] 630 M) (fun _ _ _ _ _ => True) (fx_Q fm_lay fm_nf fm_fk fm_cl b x D dA (fun _ _ _ => False) (fun E n' M' => E = fx_ISE ∧ n' = 630 ∧ M' = M) rm0.cells rm0.slots)) : Met l y_Lw_write (Cond.codeWith y_Lw_write b_Lw_write 5 (some .int) [(0, 10, 13, 13), (0, 10, 17, 15)] :: fm_T0) ({ frames := rm0.frames + 1, cells := rm0.cells, slots := rm0.slots, locals := rm0.locals + 23 }) (fm_Pc fm_lay fm_nf fm_fk fm_cl b x D dA (fm_tys dA) (fm_EX b x) false [.ref 8, .int v, .int w, .ref 629] 630 M) (fm_Qc fm_lay fm_nf fm_fk fm_cl b x D dA (fun r n' M' => r = some (.int (nI 2)) ∧ n' = 630 ∧ M' = M)) rm0.cells rm0.slots (fm_A b) :=
  fm_post (h_write (by decide) hM (fun _ _ _ h => h.elim) (fun E n' M' h => Or.inr h.1)) (fun r n' M' h => by
    rcases h with ⟨t, M1, h, _⟩ | ⟨h, h9⟩ | ⟨h, h9⟩
    · exact h.elim
    · exact absurd h.1 (by decide)
    · exact ⟨h9, h.2.1, h.2.2⟩)
theorem k_write_ok {l : Launch} {b : Nat} {x : Nat → Nat} {D : va_G} {dA : Nat → ClassId} {v w t : Int32} {M : fm_M} {rm0 : Room} {PM : fm_M → Prop} (hM : MetFree l y_An_write (headSpec (Cond.code y_An_write b_An_write 4 (some .int) :: fm_T0) rm0) (fm_Pc fm_lay fm_nf fm_fk fm_cl b x D dA (fm_tys dA) (fm_EX b x) false [.ref 8, .int v, .int w] 630 M) (fun _ _ _ _ _ => True) (fx_Q fm_lay fm_nf fm_fk fm_cl b x D dA (fun r n' M' => r = some (.int t) ∧ n' = 630 ∧ PM M' ) (fun _ _ _ => False) rm0.cells rm0.slots)) : Met l y_Lw_write (Cond.codeWith y_Lw_write b_Lw_write 5 (some .int) [(0, 10, 13, 13), (0, 10, 17, 15)] :: fm_T0) ({ frames := rm0.frames + 1, cells := rm0.cells, slots := rm0.slots, locals := rm0.locals + 23 }) (fm_Pc fm_lay fm_nf fm_fk fm_cl b x D dA (fm_tys dA) (fm_EX b x) false [.ref 8, .int v, .int w, .ref 629] 630 M) (fm_Qc fm_lay fm_nf fm_fk fm_cl b x D dA (fun r n' M' => r = some (.int (nI 0)) ∧ n' = 630 ∧ ∃ M1, PM M1 ∧ M' = fm_put2 M1 629 0 t.toInt64)) rm0.cells rm0.slots (fm_A b) :=
  fm_post (h_write (by decide) hM (fun _ _ _ h => ⟨Nat.le_of_eq h.2.1.symm, _, h.1⟩) (fun E n' M' h => h.elim)) (fun r n' M' h => by
    rcases h with ⟨t2, M1, h, h8, h9⟩ | ⟨h, h9⟩ | ⟨h, h9⟩
    · obtain ⟨e1, e2, e3⟩ := h
      cases e1
      exact ⟨h8, e2, M1, e3, h9⟩
    · exact h.elim
    · exact h.elim)
theorem k_crash_x1 {l : Launch} {b : Nat} {x : Nat → Nat} {D : va_G} {dA : Nat → ClassId} {v : Int32} {M : fm_M} {rm0 : Room} (hM : MetFree l y_An_crash (headSpec (Cond.code y_An_crash b_An_crash 2 (some .boolean) :: fm_T0) rm0) (fm_Pc fm_lay fm_nf fm_fk fm_cl b x D dA (fm_tys dA) (fm_EX b x) false [.ref 8, .int v] 630 M) (fun _ _ _ _ _ => True) (fx_Q fm_lay fm_nf fm_fk fm_cl b x D dA (fun _ _ _ => False) (fun E n' M' => E = fx_IAE ∧ n' = 630 ∧ M' = M) rm0.cells rm0.slots)) : Met l y_Lw_crash (Cond.codeWith y_Lw_crash b_Lw_crash 4 (some .int) [(0, 16, 19, 13)] :: fm_T0) ({ frames := rm0.frames + 1, cells := rm0.cells, slots := rm0.slots, locals := rm0.locals + 21 }) (fm_Pc fm_lay fm_nf fm_fk fm_cl b x D dA (fm_tys dA) (fm_EX b x) false [.ref 8, .int v, .ref 629] 630 M) (fm_Qc fm_lay fm_nf fm_fk fm_cl b x D dA (fun r n' M' => r = some (.int (nI 1)) ∧ n' = 630 ∧ M' = M)) rm0.cells rm0.slots (fm_A b) :=
  fm_post (h_crash (by decide) hM (fun _ _ _ h => h.elim) (fun E n' M' h => h.1)) (fun r n' M' h => by
    rcases h with ⟨t, M1, h, _⟩ | ⟨h, h9⟩
    · exact h.elim
    · exact ⟨h9, h.2.1, h.2.2⟩)
theorem k_crash_ok {l : Launch} {b : Nat} {x : Nat → Nat} {D : va_G} {dA : Nat → ClassId} {v t : Int32} {M : fm_M} {rm0 : Room} {PM : fm_M → Prop} (hM : MetFree l y_An_crash (headSpec (Cond.code y_An_crash b_An_crash 2 (some .boolean) :: fm_T0) rm0) (fm_Pc fm_lay fm_nf fm_fk fm_cl b x D dA (fm_tys dA) (fm_EX b x) false [.ref 8, .int v] 630 M) (fun _ _ _ _ _ => True) (fx_Q fm_lay fm_nf fm_fk fm_cl b x D dA (fun r n' M' => r = some (.int t) ∧ n' = 630 ∧ PM M' ) (fun _ _ _ => False) rm0.cells rm0.slots)) : Met l y_Lw_crash (Cond.codeWith y_Lw_crash b_Lw_crash 4 (some .int) [(0, 16, 19, 13)] :: fm_T0) ({ frames := rm0.frames + 1, cells := rm0.cells, slots := rm0.slots, locals := rm0.locals + 21 }) (fm_Pc fm_lay fm_nf fm_fk fm_cl b x D dA (fm_tys dA) (fm_EX b x) false [.ref 8, .int v, .ref 629] 630 M) (fm_Qc fm_lay fm_nf fm_fk fm_cl b x D dA (fun r n' M' => r = some (.int (nI 0)) ∧ n' = 630 ∧ ∃ M1, PM M1 ∧ M' = fm_put2 M1 629 0 (if t = 0 then 0 else 1))) rm0.cells rm0.slots (fm_A b) :=
  fm_post (h_crash (by decide) hM (fun _ _ _ h => ⟨Nat.le_of_eq h.2.1.symm, _, h.1⟩) (fun E n' M' h => h.elim)) (fun r n' M' h => by
    rcases h with ⟨t2, M1, h, h8, h9⟩ | ⟨h, h9⟩
    · obtain ⟨e1, e2, e3⟩ := h
      cases e1
      exact ⟨h8, e2, M1, e3, h9⟩
    · exact h.elim)
theorem k_start_x1 {l : Launch} {b : Nat} {x : Nat → Nat} {D : va_G} {dA : Nat → ClassId} {v : Int32} {M : fm_M} {rm0 : Room} (hM : MetFree l y_An_start (headSpec (Cond.code y_An_start b_An_start 2 (some .boolean) :: fm_T0) rm0) (fm_Pc fm_lay fm_nf fm_fk fm_cl b x D dA (fm_tys dA) (fm_EX b x) false [.ref 8, .int v] 630 M) (fun _ _ _ _ _ => True) (fx_Q fm_lay fm_nf fm_fk fm_cl b x D dA (fun _ _ _ => False) (fun E n' M' => E = fx_IAE ∧ n' = 630 ∧ M' = M) rm0.cells rm0.slots)) : Met l y_Lw_start (Cond.codeWith y_Lw_start b_Lw_start 4 (some .int) [(0, 16, 19, 13)] :: fm_T0) ({ frames := rm0.frames + 1, cells := rm0.cells, slots := rm0.slots, locals := rm0.locals + 21 }) (fm_Pc fm_lay fm_nf fm_fk fm_cl b x D dA (fm_tys dA) (fm_EX b x) false [.ref 8, .int v, .ref 629] 630 M) (fm_Qc fm_lay fm_nf fm_fk fm_cl b x D dA (fun r n' M' => r = some (.int (nI 1)) ∧ n' = 630 ∧ M' = M)) rm0.cells rm0.slots (fm_A b) :=
  fm_post (h_start (by decide) hM (fun _ _ _ h => h.elim) (fun E n' M' h => h.1)) (fun r n' M' h => by
    rcases h with ⟨t, M1, h, _⟩ | ⟨h, h9⟩
    · exact h.elim
    · exact ⟨h9, h.2.1, h.2.2⟩)
theorem k_start_ok {l : Launch} {b : Nat} {x : Nat → Nat} {D : va_G} {dA : Nat → ClassId} {v t : Int32} {M : fm_M} {rm0 : Room} {PM : fm_M → Prop} (hM : MetFree l y_An_start (headSpec (Cond.code y_An_start b_An_start 2 (some .boolean) :: fm_T0) rm0) (fm_Pc fm_lay fm_nf fm_fk fm_cl b x D dA (fm_tys dA) (fm_EX b x) false [.ref 8, .int v] 630 M) (fun _ _ _ _ _ => True) (fx_Q fm_lay fm_nf fm_fk fm_cl b x D dA (fun r n' M' => r = some (.int t) ∧ n' = 630 ∧ PM M' ) (fun _ _ _ => False) rm0.cells rm0.slots)) : Met l y_Lw_start (Cond.codeWith y_Lw_start b_Lw_start 4 (some .int) [(0, 16, 19, 13)] :: fm_T0) ({ frames := rm0.frames + 1, cells := rm0.cells, slots := rm0.slots, locals := rm0.locals + 21 }) (fm_Pc fm_lay fm_nf fm_fk fm_cl b x D dA (fm_tys dA) (fm_EX b x) false [.ref 8, .int v, .ref 629] 630 M) (fm_Qc fm_lay fm_nf fm_fk fm_cl b x D dA (fun r n' M' => r = some (.int (nI 0)) ∧ n' = 630 ∧ ∃ M1, PM M1 ∧ M' = fm_put2 M1 629 0 (if t = 0 then 0 else 1))) rm0.cells rm0.slots (fm_A b) :=
  fm_post (h_start (by decide) hM (fun _ _ _ h => ⟨Nat.le_of_eq h.2.1.symm, _, h.1⟩) (fun E n' M' h => h.elim)) (fun r n' M' h => by
    rcases h with ⟨t2, M1, h, h8, h9⟩ | ⟨h, h9⟩
    · obtain ⟨e1, e2, e3⟩ := h
      cases e1
      exact ⟨h8, e2, M1, e3, h9⟩
    · exact h.elim)
theorem k_net_x1 {l : Launch} {b : Nat} {x : Nat → Nat} {D : va_G} {dA : Nat → ClassId} {v w : Int32} {M : fm_M} {rm0 : Room} (hM : MetFree l y_An_net (headSpec (Cond.code y_An_net b_An_net 4 (some .int) :: fm_T0) rm0) (fm_Pc fm_lay fm_nf fm_fk fm_cl b x D dA (fm_tys dA) (fm_EX b x) false [.ref 8, .int v, .int w] 630 M) (fun _ _ _ _ _ => True) (fx_Q fm_lay fm_nf fm_fk fm_cl b x D dA (fun _ _ _ => False) (fun E n' M' => E = fx_IAE ∧ n' = 630 ∧ M' = M) rm0.cells rm0.slots)) : Met l y_Lw_net (Cond.codeWith y_Lw_net b_Lw_net 5 (some .int) [(0, 10, 13, 13), (0, 10, 17, 41), (0, 10, 21, 15)] :: fm_T0) ({ frames := rm0.frames + 1, cells := rm0.cells, slots := rm0.slots, locals := rm0.locals + 23 }) (fm_Pc fm_lay fm_nf fm_fk fm_cl b x D dA (fm_tys dA) (fm_EX b x) false [.ref 8, .int v, .int w, .ref 629] 630 M) (fm_Qc fm_lay fm_nf fm_fk fm_cl b x D dA (fun r n' M' => r = some (.int (nI 1)) ∧ n' = 630 ∧ M' = M)) rm0.cells rm0.slots (fm_A b) :=
  fm_post (h_net (by decide) hM (fun _ _ _ h => h.elim) (fun E n' M' h => Or.inl h.1)) (fun r n' M' h => by
    rcases h with ⟨t, M1, h, _⟩ | ⟨h, h9⟩ | ⟨h, h9⟩ | ⟨h, h9⟩
    · exact h.elim
    · exact ⟨h9, h.2.1, h.2.2⟩
    · exact absurd h.1 (by decide)
    · exact absurd h.1 (by decide))
theorem k_net_x2 {l : Launch} {b : Nat} {x : Nat → Nat} {D : va_G} {dA : Nat → ClassId} {v w : Int32} {M : fm_M} {rm0 : Room} (hM : MetFree l y_An_net (headSpec (Cond.code y_An_net b_An_net 4 (some .int) :: fm_T0) rm0) (fm_Pc fm_lay fm_nf fm_fk fm_cl b x D dA (fm_tys dA) (fm_EX b x) false [.ref 8, .int v, .int w] 630 M) (fun _ _ _ _ _ => True) (fx_Q fm_lay fm_nf fm_fk fm_cl b x D dA (fun _ _ _ => False) (fun E n' M' => E = fx_IOE ∧ n' = 630 ∧ M' = M) rm0.cells rm0.slots)) : Met l y_Lw_net (Cond.codeWith y_Lw_net b_Lw_net 5 (some .int) [(0, 10, 13, 13), (0, 10, 17, 41), (0, 10, 21, 15)] :: fm_T0) ({ frames := rm0.frames + 1, cells := rm0.cells, slots := rm0.slots, locals := rm0.locals + 23 }) (fm_Pc fm_lay fm_nf fm_fk fm_cl b x D dA (fm_tys dA) (fm_EX b x) false [.ref 8, .int v, .int w, .ref 629] 630 M) (fm_Qc fm_lay fm_nf fm_fk fm_cl b x D dA (fun r n' M' => r = some (.int (nI 2)) ∧ n' = 630 ∧ M' = M)) rm0.cells rm0.slots (fm_A b) :=
  fm_post (h_net (by decide) hM (fun _ _ _ h => h.elim) (fun E n' M' h => Or.inr (Or.inl h.1))) (fun r n' M' h => by
    rcases h with ⟨t, M1, h, _⟩ | ⟨h, h9⟩ | ⟨h, h9⟩ | ⟨h, h9⟩
    · exact h.elim
    · exact absurd h.1 (by decide)
    · exact ⟨h9, h.2.1, h.2.2⟩
    · exact absurd h.1 (by decide))
theorem k_net_x3 {l : Launch} {b : Nat} {x : Nat → Nat} {D : va_G} {dA : Nat → ClassId} {v w : Int32} {M : fm_M} {rm0 : Room} (hM : MetFree l y_An_net (headSpec (Cond.code y_An_net b_An_net 4 (some .int) :: fm_T0) rm0) (fm_Pc fm_lay fm_nf fm_fk fm_cl b x D dA (fm_tys dA) (fm_EX b x) false [.ref 8, .int v, .int w] 630 M) (fun _ _ _ _ _ => True) (fx_Q fm_lay fm_nf fm_fk fm_cl b x D dA (fun _ _ _ => False) (fun E n' M' => E = fx_ISE ∧ n' = 630 ∧ M' = M) rm0.cells rm0.slots)) : Met l y_Lw_net (Cond.codeWith y_Lw_net b_Lw_net 5 (some .int) [(0, 10, 13, 13), (0, 10, 17, 41), (0, 10, 21, 15)] :: fm_T0) ({ frames := rm0.frames + 1, cells := rm0.cells, slots := rm0.slots, locals := rm0.locals + 23 }) (fm_Pc fm_lay fm_nf fm_fk fm_cl b x D dA (fm_tys dA) (fm_EX b x) false [.ref 8, .int v, .int w, .ref 629] 630 M) (fm_Qc fm_lay fm_nf fm_fk fm_cl b x D dA (fun r n' M' => r = some (.int (nI 3)) ∧ n' = 630 ∧ M' = M)) rm0.cells rm0.slots (fm_A b) :=
  fm_post (h_net (by decide) hM (fun _ _ _ h => h.elim) (fun E n' M' h => Or.inr (Or.inr h.1))) (fun r n' M' h => by
    rcases h with ⟨t, M1, h, _⟩ | ⟨h, h9⟩ | ⟨h, h9⟩ | ⟨h, h9⟩
    · exact h.elim
    · exact absurd h.1 (by decide)
    · exact absurd h.1 (by decide)
    · exact ⟨h9, h.2.1, h.2.2⟩)
theorem k_net_ok {l : Launch} {b : Nat} {x : Nat → Nat} {D : va_G} {dA : Nat → ClassId} {v w t : Int32} {M : fm_M} {rm0 : Room} {PM : fm_M → Prop} (hM : MetFree l y_An_net (headSpec (Cond.code y_An_net b_An_net 4 (some .int) :: fm_T0) rm0) (fm_Pc fm_lay fm_nf fm_fk fm_cl b x D dA (fm_tys dA) (fm_EX b x) false [.ref 8, .int v, .int w] 630 M) (fun _ _ _ _ _ => True) (fx_Q fm_lay fm_nf fm_fk fm_cl b x D dA (fun r n' M' => r = some (.int t) ∧ n' = 630 ∧ PM M' ) (fun _ _ _ => False) rm0.cells rm0.slots)) : Met l y_Lw_net (Cond.codeWith y_Lw_net b_Lw_net 5 (some .int) [(0, 10, 13, 13), (0, 10, 17, 41), (0, 10, 21, 15)] :: fm_T0) ({ frames := rm0.frames + 1, cells := rm0.cells, slots := rm0.slots, locals := rm0.locals + 23 }) (fm_Pc fm_lay fm_nf fm_fk fm_cl b x D dA (fm_tys dA) (fm_EX b x) false [.ref 8, .int v, .int w, .ref 629] 630 M) (fm_Qc fm_lay fm_nf fm_fk fm_cl b x D dA (fun r n' M' => r = some (.int (nI 0)) ∧ n' = 630 ∧ ∃ M1, PM M1 ∧ M' = fm_put2 M1 629 0 t.toInt64)) rm0.cells rm0.slots (fm_A b) :=
  fm_post (h_net (by decide) hM (fun _ _ _ h => ⟨Nat.le_of_eq h.2.1.symm, _, h.1⟩) (fun E n' M' h => h.elim)) (fun r n' M' h => by
    rcases h with ⟨t2, M1, h, h8, h9⟩ | ⟨h, h9⟩ | ⟨h, h9⟩ | ⟨h, h9⟩
    · obtain ⟨e1, e2, e3⟩ := h
      cases e1
      exact ⟨h8, e2, M1, e3, h9⟩
    · exact h.elim
    · exact h.elim
    · exact h.elim)
theorem fr_cp : ∀ j, j < 4 → fm_M2.2.2 (90 + 124 * j) 4 = some (132 + 124 * j) ∧ fm_M2.2.2 (90 + 124 * j) 5 = some (173 + 124 * j) := by decide +kernel
theorem fr_sl : ∀ j, j < 4 → ∀ i, i < 8 → fm_M2.1 (92 + 124 * j) i = 0 ∧ fm_M2.1 (133 + 124 * j) i = 0 ∧ fm_M2.1 (174 + 124 * j) i = 0 ∧ fm_M2.1 (93 + 124 * j) i = fm_M2.1 (175 + 124 * j) i ∧ fm_M2.1 (94 + 124 * j) i = fm_M2.1 (176 + 124 * j) i := by decide +kernel
theorem fr_sl2 : ∀ j, j < 4 → ∀ i, i < 8 → fm_M2.1 (95 + 124 * j) i = fm_M2.1 (177 + 124 * j) i ∧ fm_M2.1 (98 + 124 * j) i = fm_M2.1 (180 + 124 * j) i := by decide +kernel
theorem fr_va : ∀ j, j < 4 → ∀ i, i < 128 → fm_M2.1 (99 + 124 * j) i = fm_M2.1 (181 + 124 * j) i := by decide +kernel
theorem fr_sy : fm_M2.2.2 66 0 = some 67 ∧ fm_M2.2.2 69 0 = some 70 ∧ fm_M2.2.2 69 2 = some 74 ∧ fm_M2.2.2 70 0 = some 71 ∧ fm_M2.2.2 74 10 = some 75 ∧ fm_M2.2.2 74 11 = some 76 ∧ fm_M2.2.2 74 12 = some 77 := by decide +kernel
theorem fr_s0 : ∀ i, i < 8 → fm_M2.1 71 i = 0 ∧ fm_M2.1 604 i = 0 := by decide +kernel
theorem fr_rs : ∀ j, j < 4 → ∀ i, i < 8 → fm_M2.1 597 (24 * j + 16 + i) = 0 := by decide +kernel
/-- all that a fresh reference holds, as far as a first call asks -/
def fm_FR (M : fm_M) : Prop := fm_RP M ∧ M.1 586 4 = 0 ∧ M.1 586 37 = 0 ∧ (∀ j, j < 4 → M.1 595 j = 1 ∧ M.1 596 j = 0 ∧ M.1 588 j = 0) ∧ (∀ i, i < 8 → M.1 593 i = 0 ∧ M.1 604 i = 0) ∧ (∀ j, j < 4 → ∀ i, i < 8 → M.1 597 (24 * j + i) = 0 ∧ M.1 597 (24 * j + 16 + i) = 0) ∧ (∀ j, j < 4 → fm_eqM M (3 * j) (3 * j + 1))
theorem fr_e1 : ∀ j, j < 4 → ∀ a, a < 8 → fm_M2.1 605 (8 * (3 * j + 1) + a) = fm_M2.1 605 (8 * (3 * j) + a) ∧ fm_M2.1 606 (8 * (3 * j + 1) + a) = fm_M2.1 606 (8 * (3 * j) + a) ∧ fm_M2.1 607 (8 * (3 * j + 1) + a) = fm_M2.1 607 (8 * (3 * j) + a) ∧ fm_M2.1 608 (8 * (3 * j + 1) + a) = fm_M2.1 608 (8 * (3 * j) + a) ∧ fm_M2.1 609 (8 * (3 * j + 1) + a) = fm_M2.1 609 (8 * (3 * j) + a) ∧ fm_M2.1 610 (8 * (3 * j + 1) + a) = fm_M2.1 610 (8 * (3 * j) + a) ∧ fm_M2.1 611 (8 * (3 * j + 1) + a) = vp_nar .boolean (fm_M2.1 611 (8 * (3 * j) + a)) ∧ fm_M2.1 612 (8 * (3 * j + 1) + a) = fm_M2.1 612 (8 * (3 * j) + a) ∧ fm_M2.1 614 (8 * (3 * j + 1) + a) = fm_M2.1 614 (8 * (3 * j) + a) := by decide +kernel
theorem fr_e2 : ∀ j, j < 4 → ∀ a, a < 8 → (∀ k, k < 6 → fm_M2.2.1 613 (6 * (8 * (3 * j + 1) + a) + k) = fm_M2.2.1 613 (6 * (8 * (3 * j) + a) + k)) := by decide +kernel
theorem fr_e3 : ∀ j, j < 4 → ∀ a, a < 8 → (∀ k, k < 9 → fm_M2.2.1 615 (9 * (8 * (3 * j + 1) + a) + k) = fm_M2.2.1 615 (9 * (8 * (3 * j) + a) + k)) := by decide +kernel
theorem fr_e4 : ∀ j, j < 4 → ∀ a, a < 8 → (∀ k, k < 9 → fm_M2.2.1 616 (9 * (8 * (3 * j + 1) + a) + k) = fm_M2.2.1 616 (9 * (8 * (3 * j) + a) + k)) := by decide +kernel
theorem fr_e5 : ∀ j, j < 4 → ∀ a, a < 8 → fm_M2.1 597 (8 * (3 * j + 1) + a) = fm_M2.1 597 (8 * (3 * j) + a) ∧ fm_M2.1 598 (8 * (3 * j + 1) + a) = fm_M2.1 598 (8 * (3 * j) + a) ∧ fm_M2.1 599 (8 * (3 * j + 1) + a) = fm_M2.1 599 (8 * (3 * j) + a) ∧ fm_M2.1 600 (8 * (3 * j + 1) + a) = fm_M2.1 600 (8 * (3 * j) + a) ∧ fm_M2.1 601 (8 * (3 * j + 1) + a) = fm_M2.1 601 (8 * (3 * j) + a) ∧ fm_M2.1 602 (8 * (3 * j + 1) + a) = fm_M2.1 602 (8 * (3 * j) + a) := by decide +kernel
theorem fr_e6 : ∀ j, j < 4 → ∀ a, a < 8 → (∀ k, k < 16 → fm_M2.1 603 (16 * (8 * (3 * j + 1) + a) + k) = fm_M2.1 603 (16 * (8 * (3 * j) + a) + k)) := by decide +kernel
theorem fr_eqM (j : Nat) (hj : j < 4) : fm_eqM fm_M2 (3 * j) (3 * j + 1) := by
  intro a ha
  obtain ⟨a1, a2, a3, a4, a5, a6, a7, a8, a9⟩ := fr_e1 j hj a ha
  obtain ⟨b1, b2, b3, b4, b5, b6⟩ := fr_e5 j hj a ha
  exact ⟨⟨a1, a2, a3, a4, a5, a6, a7, a8, a9, fr_e2 j hj a ha, fr_e3 j hj a ha, fr_e4 j hj a ha⟩, b1, b2, b3, b4, b5, b6, fr_e6 j hj a ha⟩
theorem fr_FR : fm_FR fm_M2 := ⟨fr_RP, fr_ref.1, fr_ref.2.1, fr_rup, fun i hi => ⟨(fr_cnt i hi).1, (fr_s0 i hi).2⟩, fun j hj i hi => ⟨(fr_slot j hj i hi).2, fr_rs j hj i hi⟩, fr_eqM⟩
theorem FR_hi {M M' : fm_M} (h : fm_hi M M') (g : fm_FR M) : fm_FR M' := by
  obtain ⟨g1, g2, g3, g4, g5, g6, g7⟩ := g
  have e1 : ∀ o, 586 ≤ o → M'.1 o = M.1 o := fun o ho => (h o ho).1
  have e2 : ∀ o, 586 ≤ o → M'.2.1 o = M.2.1 o := fun o ho => (h o ho).2.1
  refine ⟨fun q hq => by rw [(h 586 (by decide)).2.2]; exact g1 q hq, by rw [e1 586 (by decide)]; exact g2, by rw [e1 586 (by decide)]; exact g3, fun j hj => by rw [e1 595 (by decide), e1 596 (by decide), e1 588 (by decide)]; exact g4 j hj, fun i hi => by rw [e1 593 (by decide), e1 604 (by decide)]; exact g5 i hi, fun j hj i hi => by rw [e1 597 (by decide)]; exact g6 j hj i hi, fun j hj => ?_⟩
  have g8 := g7 j hj
  unfold fm_eqM fm_eqA at g8 ⊢
  rw [e1 605 (by decide), e1 606 (by decide), e1 607 (by decide), e1 608 (by decide), e1 609 (by decide), e1 610 (by decide), e1 611 (by decide), e1 612 (by decide), e1 614 (by decide), e2 613 (by decide), e2 615 (by decide), e2 616 (by decide), e1 597 (by decide), e1 598 (by decide), e1 599 (by decide), e1 600 (by decide), e1 601 (by decide), e1 602 (by decide), e1 603 (by decide)]
  exact g8
theorem FR_p2 {M : fm_M} {k : Nat} {v : Int64} (g : fm_FR M) : fm_FR (fm_put2 M 629 k v) := g
theorem mapp_hi (o q : Nat) (y : Int64) (ho : o < 586) (hq : q < 586) : ∀ c k (M : fm_M), fm_hi M (m_app o q y c k M)
  | 0, _, M => hi_rf M
  | c + 1, k, M => hi_tr (hi_p1 ho (hi_p1 hq (hi_rf M))) (mapp_hi o q y ho hq c (k + 1) _)
