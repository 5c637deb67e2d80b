/-! THE LAW'S CASES: each for whatever both sides do -/
theorem fm_post {l : Launch} {y : MethodName} {ws : List Cond} {rm : Room} {Pc : Array Value → State → Prop} {lay : Nat → Nat × Nat} {nf : Nat → Nat} {fk : Nat → Nat → Nat} {cl : List vw_C} {b : Nat} {x : Nat → Nat} {D : va_G} {dA : Nat → ClassId} {post post' : Option Value → Nat → fm_M → Prop} {mc ms : Nat} {A : Nat → Prop} (h : Met l y ws rm Pc (fm_Qc lay nf fk cl b x D dA post) mc ms A) (hp : ∀ r n' M', post r n' M' → post' r n' M') : Met l y ws rm Pc (fm_Qc lay nf fk cl b x D dA post') mc ms A :=
  MetFree.mono h (fun _ _ h => h) (fun _ _ _ _ _ h => h) (fun _ _ _ _ _ h => ⟨⟨by obtain ⟨r, n', M', a1, a2, a3⟩ := h.1.1; exact ⟨r, n', M', a1, hp _ _ _ a2, a3⟩, h.1.2⟩, h.2⟩)
theorem lg_cmp_self (u : Int64) : lg_cmp u u = 0 := by
  unfold lg_cmp
  rw [if_neg (show ¬ u > u from Int64.lt_irrefl), if_pos rfl]
section LWC
variable {p : Program} {l : Launch} {e : Env} {s : State} {m : MethodId} {args : Array Value} {below : List Frame} {meth : Method} {c : Code} {Q : State → Prop}
variable {b : Nat} {x : Nat → Nat} {D : va_G} {dA : Nat → ClassId} {M : fm_M} {z : Nat × Nat} {f : Nat → Int32} {i len : Nat} {B : fm_M → Prop}
theorem fm_wide {R : Room} {lay : Nat → Nat × Nat} {nf : Nat → Nat} {fk : Nat → Nat → Nat} {cl : List vw_C} {nL pc n : Nat} {lv : List (Nat × Value)} {st : List Value} (z' : Nat × Nat) (h1 : z.1 ≤ z'.1) (h2 : z.2 ≤ z'.2) (k : fm_G p l e R s m args below meth c Q lay nf fk cl b x D dA nL pc lv st n M z') : fm_G p l e R s m args below meth c Q lay nf fk cl b x D dA nL pc lv st n M z :=
  fun ls H locs a1 a2 a3 => W.widen (k := z'.1) (n := z'.2) h1 h2 (k ls H locs a1 a2 a3)
theorem lw_program (hc : fm_Cx p s m args meth c fm_cl b D 7 b_Lw_law "AgentNetLaw" fm_T0 (fm_tys dA)) (hex : fm_EX b x s) (hX : va_X (x 0) len f s s.heap) (hxl : x 0 < s.heap.size) (hxb : x 0 < b) (hlen : len < 2 ^ 31) (hi : i + 5 ≤ len) {t : Int32} {PA : fm_M → Prop} {fr1 lo1 : Nat} (hr1 : fr1 ≤ 10) (hr2 : lo1 ≤ 400) (hz : z.1 + 0 ≤ room_1.cells ∧ z.2 + 0 ≤ room_1.slots) (h1 : Met l y_An_program (Cond.code y_An_program b_An_program 5 (some .int) :: fm_T0) ({ frames := fr1, cells := 0, slots := 0, locals := lo1 }) (fm_Pc fm_lay fm_nf fm_fk fm_cl b x D dA (fm_tys dA) (fm_EX b x) false [.ref 8, .int (f (i + 1)), .long (((f (i + 2)).toInt64 <<< ((nI 32).toInt64 &&& 63)) ||| ((f (i + 3)).toInt64 &&& 4294967295)), .int (f (i + 4))] 630 M) (fm_Qc fm_lay fm_nf fm_fk fm_cl b x D dA (fun r n' M' => r = some (.int t) ∧ n' = 630 ∧ PA M')) 0 0 (fm_A b)) (h2 : ∀ M1, PA M1 → ∃ (fr2 lo2 : Nat) (PB : fm_M → Prop), fr2 ≤ 10 ∧ lo2 ≤ 400 ∧ Met l y_Mo_program (Cond.code y_Mo_program b_Mo_program 6 (some .int) :: fm_T0) ({ frames := fr2, cells := 0, slots := 0, locals := lo2 }) (fm_Pc fm_lay fm_nf fm_fk fm_cl b x D dA (fm_tys dA) (fm_EX b x) false [.ref 586, .int (f (i + 1)), .long (((f (i + 2)).toInt64 <<< ((nI 32).toInt64 &&& 63)) ||| ((f (i + 3)).toInt64 &&& 4294967295)), .int (f (i + 4))] 630 M1) (fm_Qc fm_lay fm_nf fm_fk fm_cl b x D dA (fun r n' M' => r = some (.int t) ∧ n' = 630 ∧ PB M')) 0 0 (fm_A b) ∧ ∀ M', PB M' → B M') (kk : ∀ M', B M' → fm_G p l e room_1 s m args below meth c Q fm_lay fm_nf fm_fk fm_cl b x D dA 7 1091 [(4, .int (nI i)), (3, .ref 629), (2, .ref 586), (1, .ref 8), (0, .ref 0)] [] 630 M' z) : fm_G p l e room_1 s m args below meth c Q fm_lay fm_nf fm_fk fm_cl b x D dA 7 128 [(4, .int (nI i)), (3, .ref 629), (2, .ref 586), (1, .ref 8), (0, .ref 0)] [] 630 M z := by
  refine fm_aload_n hc d_Lw_law_128 rfl rfl ?_
  refine fm_aload_n hc d_Lw_law_129 rfl rfl ?_
  refine fm_iload hc d_Lw_law_130 rfl ?_
  refine fm_iconst (v := nI 1) hc d_Lw_law_132 rfl ?_
  refine fm_iadd hc d_Lw_law_133 ?_
  refine fm_top (congrArg Value.int (nI_add i 1)) ?_
  refine fm_sald (o := 0) (j := i + 1) (len := len) hc d_Lw_law_134 (by decide) hX hxl hxb (by omega) hlen ?_
  refine fm_aload_n hc d_Lw_law_135 rfl rfl ?_
  refine fm_iload hc d_Lw_law_136 rfl ?_
  refine fm_iconst (v := nI 2) hc d_Lw_law_138 rfl ?_
  refine fm_iadd hc d_Lw_law_139 ?_
  refine fm_top (congrArg Value.int (nI_add i 2)) ?_
  refine fm_sald (o := 0) (j := i + 2) (len := len) hc d_Lw_law_140 (by decide) hX hxl hxb (by omega) hlen ?_
  refine fm_i2l hc d_Lw_law_141 ?_
  refine fm_bipush (v := nI 32) hc d_Lw_law_142 rfl ?_
  refine fm_lshl hc d_Lw_law_144 ?_
  refine fm_aload_n hc d_Lw_law_145 rfl rfl ?_
  refine fm_iload hc d_Lw_law_146 rfl ?_
  refine fm_iconst (v := nI 3) hc d_Lw_law_148 rfl ?_
  refine fm_iadd hc d_Lw_law_149 ?_
  refine fm_top (congrArg Value.int (nI_add i 3)) ?_
  refine fm_sald (o := 0) (j := i + 3) (len := len) hc d_Lw_law_150 (by decide) hX hxl hxb (by omega) hlen ?_
  refine fm_i2l hc d_Lw_law_151 ?_
  refine fm_ldc2 (v := 4294967295) hc d_Lw_law_152 q_1283 ?_
  refine fm_land hc d_Lw_law_155 ?_
  refine fm_lor hc d_Lw_law_156 ?_
  refine fm_aload_n hc d_Lw_law_157 rfl rfl ?_
  refine fm_iload hc d_Lw_law_158 rfl ?_
  refine fm_iconst (v := nI 4) hc d_Lw_law_160 rfl ?_
  refine fm_iadd hc d_Lw_law_161 ?_
  refine fm_top (congrArg Value.int (nI_add i 4)) ?_
  refine fm_sald (o := 0) (j := i + 4) (len := len) hc d_Lw_law_162 (by decide) hX hxl hxb (by omega) hlen ?_
  refine fm_callV (av := [.int (f (i + 1)), .long ((((f (i + 2)).toInt64) <<< ((nI 32).toInt64 &&& 63)) ||| (((f (i + 3)).toInt64) &&& 4294967295)), .int (f (i + 4))]) (rest := []) (ob := 8) (ci := 0) (r0 := ("AgentNet", F_An, 8)) (y := y_An_program) (bytes := b_An_program) hc fm_T0_good (fm_EX_st b x) hex q_383 q_1 q_380 q_381 q_382 pd_An_program (by decide) (by decide) (by decide) (by decide) rfl rfl (h1) ⟨rfl, rfl, by show fr1 + 1 ≤ 12; omega, by show 8 + (5 + 11) + lo1 ≤ 464; omega⟩ hz d_Lw_law_163 (Nat.le_of_ble_eq_true rfl) (fun r n2 M2 hp => ?_)
  obtain ⟨rfl, hq1, hA⟩ := hp
  subst hq1
  obtain ⟨fr2, lo2, PB, hr3, hr4, h2b, hB⟩ := h2 M2 hA
  refine fm_cnt (z' := z) rfl (fm_st (st' := [.int t]) rfl ?_)
  refine fm_aload_n hc d_Lw_law_166 rfl rfl ?_
  refine fm_aload_n hc d_Lw_law_167 rfl rfl ?_
  refine fm_iload hc d_Lw_law_168 rfl ?_
  refine fm_iconst (v := nI 1) hc d_Lw_law_170 rfl ?_
  refine fm_iadd hc d_Lw_law_171 ?_
  refine fm_top (congrArg Value.int (nI_add i 1)) ?_
  refine fm_sald (o := 0) (j := i + 1) (len := len) hc d_Lw_law_172 (by decide) hX hxl hxb (by omega) hlen ?_
  refine fm_aload_n hc d_Lw_law_173 rfl rfl ?_
  refine fm_iload hc d_Lw_law_174 rfl ?_
  refine fm_iconst (v := nI 2) hc d_Lw_law_176 rfl ?_
  refine fm_iadd hc d_Lw_law_177 ?_
  refine fm_top (congrArg Value.int (nI_add i 2)) ?_
  refine fm_sald (o := 0) (j := i + 2) (len := len) hc d_Lw_law_178 (by decide) hX hxl hxb (by omega) hlen ?_
  refine fm_i2l hc d_Lw_law_179 ?_
  refine fm_bipush (v := nI 32) hc d_Lw_law_180 rfl ?_
  refine fm_lshl hc d_Lw_law_182 ?_
  refine fm_aload_n hc d_Lw_law_183 rfl rfl ?_
  refine fm_iload hc d_Lw_law_184 rfl ?_
  refine fm_iconst (v := nI 3) hc d_Lw_law_186 rfl ?_
  refine fm_iadd hc d_Lw_law_187 ?_
  refine fm_top (congrArg Value.int (nI_add i 3)) ?_
  refine fm_sald (o := 0) (j := i + 3) (len := len) hc d_Lw_law_188 (by decide) hX hxl hxb (by omega) hlen ?_
  refine fm_i2l hc d_Lw_law_189 ?_
  refine fm_ldc2 (v := 4294967295) hc d_Lw_law_190 q_1283 ?_
  refine fm_land hc d_Lw_law_193 ?_
  refine fm_lor hc d_Lw_law_194 ?_
  refine fm_aload_n hc d_Lw_law_195 rfl rfl ?_
  refine fm_iload hc d_Lw_law_196 rfl ?_
  refine fm_iconst (v := nI 4) hc d_Lw_law_198 rfl ?_
  refine fm_iadd hc d_Lw_law_199 ?_
  refine fm_top (congrArg Value.int (nI_add i 4)) ?_
  refine fm_sald (o := 0) (j := i + 4) (len := len) hc d_Lw_law_200 (by decide) hX hxl hxb (by omega) hlen ?_
  refine fm_callV (av := [.int (f (i + 1)), .long ((((f (i + 2)).toInt64) <<< ((nI 32).toInt64 &&& 63)) ||| (((f (i + 3)).toInt64) &&& 4294967295)), .int (f (i + 4))]) (rest := [.int t]) (ob := 586) (ci := 11) (r0 := ("AgentNetModel", F_Mo, 51)) (y := y_Mo_program) (bytes := b_Mo_program) hc fm_T0_good (fm_EX_st b x) hex q_1046 q_13 q_1043 q_1044 q_1045 pd_Mo_program (by decide) (by decide) (by decide) (by decide) rfl rfl (h2b) ⟨rfl, rfl, by show fr2 + 1 ≤ 12; omega, by show 8 + (6 + 11) + lo2 ≤ 464; omega⟩ hz d_Lw_law_201 (Nat.le_of_ble_eq_true rfl) (fun r n2 M3 hp => ?_)
  obtain ⟨rfl, hq1, hA2⟩ := hp
  subst hq1
  refine fm_cnt (z' := z) rfl (fm_st (st' := [.int t, .int t]) rfl ?_)
  exact fm_icmp_eq (tgt := 1091) hc d_Lw_law_204 rfl (fun _ => kk _ (hB _ hA2)) (fun g => absurd rfl g)
theorem lw_table (hc : fm_Cx p s m args meth c fm_cl b D 7 b_Lw_law "AgentNetLaw" fm_T0 (fm_tys dA)) (hex : fm_EX b x s) (hX : va_X (x 0) len f s s.heap) (hxl : x 0 < s.heap.size) (hxb : x 0 < b) (hlen : len < 2 ^ 31) (hi : i + 5 ≤ len) {t : Int32} {PA : fm_M → Prop} {fr1 lo1 : Nat} (hr1 : fr1 ≤ 10) (hr2 : lo1 ≤ 400) (hz : z.1 + 0 ≤ room_1.cells ∧ z.2 + 0 ≤ room_1.slots) (h1 : Met l y_An_table (Cond.code y_An_table b_An_table 4 (some .boolean) :: fm_T0) ({ frames := fr1, cells := 0, slots := 0, locals := lo1 }) (fm_Pc fm_lay fm_nf fm_fk fm_cl b x D dA (fm_tys dA) (fm_EX b x) false [.ref 8, .int (f (i + 1)), .int (f (i + 2)), .int (f (i + 3))] 630 M) (fm_Qc fm_lay fm_nf fm_fk fm_cl b x D dA (fun r n' M' => r = some (.int t) ∧ n' = 630 ∧ PA M')) 0 0 (fm_A b)) (h2 : ∀ M1, PA M1 → ∃ (fr2 lo2 : Nat) (PB : fm_M → Prop), fr2 ≤ 10 ∧ lo2 ≤ 400 ∧ Met l y_Mo_table (Cond.code y_Mo_table b_Mo_table 4 (some .boolean) :: fm_T0) ({ frames := fr2, cells := 0, slots := 0, locals := lo2 }) (fm_Pc fm_lay fm_nf fm_fk fm_cl b x D dA (fm_tys dA) (fm_EX b x) false [.ref 586, .int (f (i + 1)), .int (f (i + 2)), .int (f (i + 3))] 630 M1) (fm_Qc fm_lay fm_nf fm_fk fm_cl b x D dA (fun r n' M' => r = some (.int t) ∧ n' = 630 ∧ PB M')) 0 0 (fm_A b) ∧ ∀ M', PB M' → B M') (kk : ∀ M', B M' → fm_G p l e room_1 s m args below meth c Q fm_lay fm_nf fm_fk fm_cl b x D dA 7 1091 [(4, .int (nI i)), (3, .ref 629), (2, .ref 586), (1, .ref 8), (0, .ref 0)] [] 630 M' z) : fm_G p l e room_1 s m args below meth c Q fm_lay fm_nf fm_fk fm_cl b x D dA 7 209 [(4, .int (nI i)), (3, .ref 629), (2, .ref 586), (1, .ref 8), (0, .ref 0)] [] 630 M z := by
  refine fm_aload_n hc d_Lw_law_209 rfl rfl ?_
  refine fm_aload_n hc d_Lw_law_210 rfl rfl ?_
  refine fm_iload hc d_Lw_law_211 rfl ?_
  refine fm_iconst (v := nI 1) hc d_Lw_law_213 rfl ?_
  refine fm_iadd hc d_Lw_law_214 ?_
  refine fm_top (congrArg Value.int (nI_add i 1)) ?_
  refine fm_sald (o := 0) (j := i + 1) (len := len) hc d_Lw_law_215 (by decide) hX hxl hxb (by omega) hlen ?_
  refine fm_aload_n hc d_Lw_law_216 rfl rfl ?_
  refine fm_iload hc d_Lw_law_217 rfl ?_
  refine fm_iconst (v := nI 2) hc d_Lw_law_219 rfl ?_
  refine fm_iadd hc d_Lw_law_220 ?_
  refine fm_top (congrArg Value.int (nI_add i 2)) ?_
  refine fm_sald (o := 0) (j := i + 2) (len := len) hc d_Lw_law_221 (by decide) hX hxl hxb (by omega) hlen ?_
  refine fm_aload_n hc d_Lw_law_222 rfl rfl ?_
  refine fm_iload hc d_Lw_law_223 rfl ?_
  refine fm_iconst (v := nI 3) hc d_Lw_law_225 rfl ?_
  refine fm_iadd hc d_Lw_law_226 ?_
  refine fm_top (congrArg Value.int (nI_add i 3)) ?_
  refine fm_sald (o := 0) (j := i + 3) (len := len) hc d_Lw_law_227 (by decide) hX hxl hxb (by omega) hlen ?_
  refine fm_callV (av := [.int (f (i + 1)), .int (f (i + 2)), .int (f (i + 3))]) (rest := []) (ob := 8) (ci := 0) (r0 := ("AgentNet", F_An, 8)) (y := y_An_table) (bytes := b_An_table) hc fm_T0_good (fm_EX_st b x) hex q_394 q_1 q_391 q_392 q_393 pd_An_table (by decide) (by decide) (by decide) (by decide) rfl rfl (h1) ⟨rfl, rfl, by show fr1 + 1 ≤ 12; omega, by show 8 + (4 + 11) + lo1 ≤ 464; omega⟩ hz d_Lw_law_228 (Nat.le_of_ble_eq_true rfl) (fun r n2 M2 hp => ?_)
  obtain ⟨rfl, hq1, hA⟩ := hp
  subst hq1
  obtain ⟨fr2, lo2, PB, hr3, hr4, h2b, hB⟩ := h2 M2 hA
  refine fm_cnt (z' := z) rfl (fm_st (st' := [.int t]) rfl ?_)
  refine fm_aload_n hc d_Lw_law_231 rfl rfl ?_
  refine fm_aload_n hc d_Lw_law_232 rfl rfl ?_
  refine fm_iload hc d_Lw_law_233 rfl ?_
  refine fm_iconst (v := nI 1) hc d_Lw_law_235 rfl ?_
  refine fm_iadd hc d_Lw_law_236 ?_
  refine fm_top (congrArg Value.int (nI_add i 1)) ?_
  refine fm_sald (o := 0) (j := i + 1) (len := len) hc d_Lw_law_237 (by decide) hX hxl hxb (by omega) hlen ?_
  refine fm_aload_n hc d_Lw_law_238 rfl rfl ?_
  refine fm_iload hc d_Lw_law_239 rfl ?_
  refine fm_iconst (v := nI 2) hc d_Lw_law_241 rfl ?_
  refine fm_iadd hc d_Lw_law_242 ?_
  refine fm_top (congrArg Value.int (nI_add i 2)) ?_
  refine fm_sald (o := 0) (j := i + 2) (len := len) hc d_Lw_law_243 (by decide) hX hxl hxb (by omega) hlen ?_
  refine fm_aload_n hc d_Lw_law_244 rfl rfl ?_
  refine fm_iload hc d_Lw_law_245 rfl ?_
  refine fm_iconst (v := nI 3) hc d_Lw_law_247 rfl ?_
  refine fm_iadd hc d_Lw_law_248 ?_
  refine fm_top (congrArg Value.int (nI_add i 3)) ?_
  refine fm_sald (o := 0) (j := i + 3) (len := len) hc d_Lw_law_249 (by decide) hX hxl hxb (by omega) hlen ?_
  refine fm_callV (av := [.int (f (i + 1)), .int (f (i + 2)), .int (f (i + 3))]) (rest := [.int t]) (ob := 586) (ci := 11) (r0 := ("AgentNetModel", F_Mo, 51)) (y := y_Mo_table) (bytes := b_Mo_table) hc fm_T0_good (fm_EX_st b x) hex q_1054 q_13 q_1051 q_1052 q_1053 pd_Mo_table (by decide) (by decide) (by decide) (by decide) rfl rfl (h2b) ⟨rfl, rfl, by show fr2 + 1 ≤ 12; omega, by show 8 + (4 + 11) + lo2 ≤ 464; omega⟩ hz d_Lw_law_250 (Nat.le_of_ble_eq_true rfl) (fun r n2 M3 hp => ?_)
  obtain ⟨rfl, hq1, hA2⟩ := hp
  subst hq1
  refine fm_cnt (z' := z) rfl (fm_st (st' := [.int t, .int t]) rfl ?_)
  exact fm_icmp_eq (tgt := 1091) hc d_Lw_law_253 rfl (fun _ => kk _ (hB _ hA2)) (fun g => absurd rfl g)
theorem lw_message (hc : fm_Cx p s m args meth c fm_cl b D 7 b_Lw_law "AgentNetLaw" fm_T0 (fm_tys dA)) (hex : fm_EX b x s) (hX : va_X (x 0) len f s s.heap) (hxl : x 0 < s.heap.size) (hxb : x 0 < b) (hlen : len < 2 ^ 31) (hi : i + 5 ≤ len) {t : Int32} {PA : fm_M → Prop} {fr1 lo1 : Nat} (hr1 : fr1 ≤ 10) (hr2 : lo1 ≤ 400) (hz : z.1 + 0 ≤ room_1.cells ∧ z.2 + 0 ≤ room_1.slots) (h1 : Met l y_An_message (Cond.code y_An_message b_An_message 3 (some .int) :: fm_T0) ({ frames := fr1, cells := 0, slots := 0, locals := lo1 }) (fm_Pc fm_lay fm_nf fm_fk fm_cl b x D dA (fm_tys dA) (fm_EX b x) false [.ref 8, .int (f (i + 1)), .int (f (i + 2))] 630 M) (fm_Qc fm_lay fm_nf fm_fk fm_cl b x D dA (fun r n' M' => r = some (.int t) ∧ n' = 630 ∧ PA M')) 0 0 (fm_A b)) (h2 : ∀ M1, PA M1 → ∃ (fr2 lo2 : Nat) (PB : fm_M → Prop), fr2 ≤ 10 ∧ lo2 ≤ 400 ∧ Met l y_Mo_message (Cond.code y_Mo_message b_Mo_message 3 (some .int) :: fm_T0) ({ frames := fr2, cells := 0, slots := 0, locals := lo2 }) (fm_Pc fm_lay fm_nf fm_fk fm_cl b x D dA (fm_tys dA) (fm_EX b x) false [.ref 586, .int (f (i + 1)), .int (f (i + 2))] 630 M1) (fm_Qc fm_lay fm_nf fm_fk fm_cl b x D dA (fun r n' M' => r = some (.int t) ∧ n' = 630 ∧ PB M')) 0 0 (fm_A b) ∧ ∀ M', PB M' → B M') (kk : ∀ M', B M' → fm_G p l e room_1 s m args below meth c Q fm_lay fm_nf fm_fk fm_cl b x D dA 7 1091 [(4, .int (nI i)), (3, .ref 629), (2, .ref 586), (1, .ref 8), (0, .ref 0)] [] 630 M' z) : fm_G p l e room_1 s m args below meth c Q fm_lay fm_nf fm_fk fm_cl b x D dA 7 780 [(4, .int (nI i)), (3, .ref 629), (2, .ref 586), (1, .ref 8), (0, .ref 0)] [] 630 M z := by
  refine fm_aload_n hc d_Lw_law_780 rfl rfl ?_
  refine fm_aload_n hc d_Lw_law_781 rfl rfl ?_
  refine fm_iload hc d_Lw_law_782 rfl ?_
  refine fm_iconst (v := nI 1) hc d_Lw_law_784 rfl ?_
  refine fm_iadd hc d_Lw_law_785 ?_
  refine fm_top (congrArg Value.int (nI_add i 1)) ?_
  refine fm_sald (o := 0) (j := i + 1) (len := len) hc d_Lw_law_786 (by decide) hX hxl hxb (by omega) hlen ?_
  refine fm_aload_n hc d_Lw_law_787 rfl rfl ?_
  refine fm_iload hc d_Lw_law_788 rfl ?_
  refine fm_iconst (v := nI 2) hc d_Lw_law_790 rfl ?_
  refine fm_iadd hc d_Lw_law_791 ?_
  refine fm_top (congrArg Value.int (nI_add i 2)) ?_
  refine fm_sald (o := 0) (j := i + 2) (len := len) hc d_Lw_law_792 (by decide) hX hxl hxb (by omega) hlen ?_
  refine fm_callV (av := [.int (f (i + 1)), .int (f (i + 2))]) (rest := []) (ob := 8) (ci := 0) (r0 := ("AgentNet", F_An, 8)) (y := y_An_message) (bytes := b_An_message) hc fm_T0_good (fm_EX_st b x) hex q_401 q_1 q_398 q_399 q_400 pd_An_message (by decide) (by decide) (by decide) (by decide) rfl rfl (h1) ⟨rfl, rfl, by show fr1 + 1 ≤ 12; omega, by show 8 + (3 + 11) + lo1 ≤ 464; omega⟩ hz d_Lw_law_793 (Nat.le_of_ble_eq_true rfl) (fun r n2 M2 hp => ?_)
  obtain ⟨rfl, hq1, hA⟩ := hp
  subst hq1
  obtain ⟨fr2, lo2, PB, hr3, hr4, h2b, hB⟩ := h2 M2 hA
  refine fm_cnt (z' := z) rfl (fm_st (st' := [.int t]) rfl ?_)
  refine fm_aload_n hc d_Lw_law_796 rfl rfl ?_
  refine fm_aload_n hc d_Lw_law_797 rfl rfl ?_
  refine fm_iload hc d_Lw_law_798 rfl ?_
  refine fm_iconst (v := nI 1) hc d_Lw_law_800 rfl ?_
  refine fm_iadd hc d_Lw_law_801 ?_
  refine fm_top (congrArg Value.int (nI_add i 1)) ?_
  refine fm_sald (o := 0) (j := i + 1) (len := len) hc d_Lw_law_802 (by decide) hX hxl hxb (by omega) hlen ?_
  refine fm_aload_n hc d_Lw_law_803 rfl rfl ?_
  refine fm_iload hc d_Lw_law_804 rfl ?_
  refine fm_iconst (v := nI 2) hc d_Lw_law_806 rfl ?_
  refine fm_iadd hc d_Lw_law_807 ?_
  refine fm_top (congrArg Value.int (nI_add i 2)) ?_
  refine fm_sald (o := 0) (j := i + 2) (len := len) hc d_Lw_law_808 (by decide) hX hxl hxb (by omega) hlen ?_
  refine fm_callV (av := [.int (f (i + 1)), .int (f (i + 2))]) (rest := [.int t]) (ob := 586) (ci := 11) (r0 := ("AgentNetModel", F_Mo, 51)) (y := y_Mo_message) (bytes := b_Mo_message) hc fm_T0_good (fm_EX_st b x) hex q_1242 q_13 q_1239 q_1240 q_1241 pd_Mo_message (by decide) (by decide) (by decide) (by decide) rfl rfl (h2b) ⟨rfl, rfl, by show fr2 + 1 ≤ 12; omega, by show 8 + (3 + 11) + lo2 ≤ 464; omega⟩ hz d_Lw_law_809 (Nat.le_of_ble_eq_true rfl) (fun r n2 M3 hp => ?_)
  obtain ⟨rfl, hq1, hA2⟩ := hp
  subst hq1
  refine fm_cnt (z' := z) rfl (fm_st (st' := [.int t, .int t]) rfl ?_)
  exact fm_icmp_eq (tgt := 1091) hc d_Lw_law_812 rfl (fun _ => kk _ (hB _ hA2)) (fun g => absurd rfl g)
theorem lw_slot (hc : fm_Cx p s m args meth c fm_cl b D 7 b_Lw_law "AgentNetLaw" fm_T0 (fm_tys dA)) (hex : fm_EX b x s) (hX : va_X (x 0) len f s s.heap) (hxl : x 0 < s.heap.size) (hxb : x 0 < b) (hlen : len < 2 ^ 31) (hi : i + 5 ≤ len) {t : Int32} {PA : fm_M → Prop} {fr1 lo1 : Nat} (hr1 : fr1 ≤ 10) (hr2 : lo1 ≤ 400) (hz : z.1 + 0 ≤ room_1.cells ∧ z.2 + 0 ≤ room_1.slots) (h1 : Met l y_An_slot (Cond.code y_An_slot b_An_slot 3 (some .int) :: fm_T0) ({ frames := fr1, cells := 0, slots := 0, locals := lo1 }) (fm_Pc fm_lay fm_nf fm_fk fm_cl b x D dA (fm_tys dA) (fm_EX b x) false [.ref 8, .int (f (i + 1)), .int (f (i + 2))] 630 M) (fm_Qc fm_lay fm_nf fm_fk fm_cl b x D dA (fun r n' M' => r = some (.int t) ∧ n' = 630 ∧ PA M')) 0 0 (fm_A b)) (h2 : ∀ M1, PA M1 → ∃ (fr2 lo2 : Nat) (PB : fm_M → Prop), fr2 ≤ 10 ∧ lo2 ≤ 400 ∧ Met l y_Mo_slot (Cond.code y_Mo_slot b_Mo_slot 3 (some .int) :: fm_T0) ({ frames := fr2, cells := 0, slots := 0, locals := lo2 }) (fm_Pc fm_lay fm_nf fm_fk fm_cl b x D dA (fm_tys dA) (fm_EX b x) false [.ref 586, .int (f (i + 1)), .int (f (i + 2))] 630 M1) (fm_Qc fm_lay fm_nf fm_fk fm_cl b x D dA (fun r n' M' => r = some (.int t) ∧ n' = 630 ∧ PB M')) 0 0 (fm_A b) ∧ ∀ M', PB M' → B M') (kk : ∀ M', B M' → fm_G p l e room_1 s m args below meth c Q fm_lay fm_nf fm_fk fm_cl b x D dA 7 1091 [(4, .int (nI i)), (3, .ref 629), (2, .ref 586), (1, .ref 8), (0, .ref 0)] [] 630 M' z) : fm_G p l e room_1 s m args below meth c Q fm_lay fm_nf fm_fk fm_cl b x D dA 7 817 [(4, .int (nI i)), (3, .ref 629), (2, .ref 586), (1, .ref 8), (0, .ref 0)] [] 630 M z := by
  refine fm_aload_n hc d_Lw_law_817 rfl rfl ?_
  refine fm_aload_n hc d_Lw_law_818 rfl rfl ?_
  refine fm_iload hc d_Lw_law_819 rfl ?_
  refine fm_iconst (v := nI 1) hc d_Lw_law_821 rfl ?_
  refine fm_iadd hc d_Lw_law_822 ?_
  refine fm_top (congrArg Value.int (nI_add i 1)) ?_
  refine fm_sald (o := 0) (j := i + 1) (len := len) hc d_Lw_law_823 (by decide) hX hxl hxb (by omega) hlen ?_
  refine fm_aload_n hc d_Lw_law_824 rfl rfl ?_
  refine fm_iload hc d_Lw_law_825 rfl ?_
  refine fm_iconst (v := nI 2) hc d_Lw_law_827 rfl ?_
  refine fm_iadd hc d_Lw_law_828 ?_
  refine fm_top (congrArg Value.int (nI_add i 2)) ?_
  refine fm_sald (o := 0) (j := i + 2) (len := len) hc d_Lw_law_829 (by decide) hX hxl hxb (by omega) hlen ?_
  refine fm_callV (av := [.int (f (i + 1)), .int (f (i + 2))]) (rest := []) (ob := 8) (ci := 0) (r0 := ("AgentNet", F_An, 8)) (y := y_An_slot) (bytes := b_An_slot) hc fm_T0_good (fm_EX_st b x) hex q_413 q_1 q_410 q_411 q_412 pd_An_slot (by decide) (by decide) (by decide) (by decide) rfl rfl (h1) ⟨rfl, rfl, by show fr1 + 1 ≤ 12; omega, by show 8 + (3 + 11) + lo1 ≤ 464; omega⟩ hz d_Lw_law_830 (Nat.le_of_ble_eq_true rfl) (fun r n2 M2 hp => ?_)
  obtain ⟨rfl, hq1, hA⟩ := hp
  subst hq1
  obtain ⟨fr2, lo2, PB, hr3, hr4, h2b, hB⟩ := h2 M2 hA
  refine fm_cnt (z' := z) rfl (fm_st (st' := [.int t]) rfl ?_)
  refine fm_aload_n hc d_Lw_law_833 rfl rfl ?_
  refine fm_aload_n hc d_Lw_law_834 rfl rfl ?_
  refine fm_iload hc d_Lw_law_835 rfl ?_
  refine fm_iconst (v := nI 1) hc d_Lw_law_837 rfl ?_
  refine fm_iadd hc d_Lw_law_838 ?_
  refine fm_top (congrArg Value.int (nI_add i 1)) ?_
  refine fm_sald (o := 0) (j := i + 1) (len := len) hc d_Lw_law_839 (by decide) hX hxl hxb (by omega) hlen ?_
  refine fm_aload_n hc d_Lw_law_840 rfl rfl ?_
  refine fm_iload hc d_Lw_law_841 rfl ?_
  refine fm_iconst (v := nI 2) hc d_Lw_law_843 rfl ?_
  refine fm_iadd hc d_Lw_law_844 ?_
  refine fm_top (congrArg Value.int (nI_add i 2)) ?_
  refine fm_sald (o := 0) (j := i + 2) (len := len) hc d_Lw_law_845 (by decide) hX hxl hxb (by omega) hlen ?_
  refine fm_callV (av := [.int (f (i + 1)), .int (f (i + 2))]) (rest := [.int t]) (ob := 586) (ci := 11) (r0 := ("AgentNetModel", F_Mo, 51)) (y := y_Mo_slot) (bytes := b_Mo_slot) hc fm_T0_good (fm_EX_st b x) hex q_1246 q_13 q_1243 q_1244 q_1245 pd_Mo_slot (by decide) (by decide) (by decide) (by decide) rfl rfl (h2b) ⟨rfl, rfl, by show fr2 + 1 ≤ 12; omega, by show 8 + (3 + 11) + lo2 ≤ 464; omega⟩ hz d_Lw_law_846 (Nat.le_of_ble_eq_true rfl) (fun r n2 M3 hp => ?_)
  obtain ⟨rfl, hq1, hA2⟩ := hp
  subst hq1
  refine fm_cnt (z' := z) rfl (fm_st (st' := [.int t, .int t]) rfl ?_)
  exact fm_icmp_eq (tgt := 1091) hc d_Lw_law_849 rfl (fun _ => kk _ (hB _ hA2)) (fun g => absurd rfl g)
theorem lw_agent (hc : fm_Cx p s m args meth c fm_cl b D 7 b_Lw_law "AgentNetLaw" fm_T0 (fm_tys dA)) (hex : fm_EX b x s) (hX : va_X (x 0) len f s s.heap) (hxl : x 0 < s.heap.size) (hxb : x 0 < b) (hlen : len < 2 ^ 31) (hi : i + 5 ≤ len) {t : Int32} {PA : fm_M → Prop} {fr1 lo1 : Nat} (hr1 : fr1 ≤ 10) (hr2 : lo1 ≤ 400) (hz : z.1 + 0 ≤ room_1.cells ∧ z.2 + 0 ≤ room_1.slots) (h1 : Met l y_An_agent (Cond.code y_An_agent b_An_agent 4 (some .int) :: fm_T0) ({ frames := fr1, cells := 0, slots := 0, locals := lo1 }) (fm_Pc fm_lay fm_nf fm_fk fm_cl b x D dA (fm_tys dA) (fm_EX b x) false [.ref 8, .int (f (i + 1)), .int (f (i + 2)), .int (f (i + 3))] 630 M) (fm_Qc fm_lay fm_nf fm_fk fm_cl b x D dA (fun r n' M' => r = some (.int t) ∧ n' = 630 ∧ PA M')) 0 0 (fm_A b)) (h2 : ∀ M1, PA M1 → ∃ (fr2 lo2 : Nat) (PB : fm_M → Prop), fr2 ≤ 10 ∧ lo2 ≤ 400 ∧ Met l y_Mo_agent (Cond.code y_Mo_agent b_Mo_agent 5 (some .int) :: fm_T0) ({ frames := fr2, cells := 0, slots := 0, locals := lo2 }) (fm_Pc fm_lay fm_nf fm_fk fm_cl b x D dA (fm_tys dA) (fm_EX b x) false [.ref 586, .int (f (i + 1)), .int (f (i + 2)), .int (f (i + 3))] 630 M1) (fm_Qc fm_lay fm_nf fm_fk fm_cl b x D dA (fun r n' M' => r = some (.int t) ∧ n' = 630 ∧ PB M')) 0 0 (fm_A b) ∧ ∀ M', PB M' → B M') (kk : ∀ M', B M' → fm_G p l e room_1 s m args below meth c Q fm_lay fm_nf fm_fk fm_cl b x D dA 7 1091 [(4, .int (nI i)), (3, .ref 629), (2, .ref 586), (1, .ref 8), (0, .ref 0)] [] 630 M' z) : fm_G p l e room_1 s m args below meth c Q fm_lay fm_nf fm_fk fm_cl b x D dA 7 854 [(4, .int (nI i)), (3, .ref 629), (2, .ref 586), (1, .ref 8), (0, .ref 0)] [] 630 M z := by
  refine fm_aload_n hc d_Lw_law_854 rfl rfl ?_
  refine fm_aload_n hc d_Lw_law_855 rfl rfl ?_
  refine fm_iload hc d_Lw_law_856 rfl ?_
  refine fm_iconst (v := nI 1) hc d_Lw_law_858 rfl ?_
  refine fm_iadd hc d_Lw_law_859 ?_
  refine fm_top (congrArg Value.int (nI_add i 1)) ?_
  refine fm_sald (o := 0) (j := i + 1) (len := len) hc d_Lw_law_860 (by decide) hX hxl hxb (by omega) hlen ?_
  refine fm_aload_n hc d_Lw_law_861 rfl rfl ?_
  refine fm_iload hc d_Lw_law_862 rfl ?_
  refine fm_iconst (v := nI 2) hc d_Lw_law_864 rfl ?_
  refine fm_iadd hc d_Lw_law_865 ?_
  refine fm_top (congrArg Value.int (nI_add i 2)) ?_
  refine fm_sald (o := 0) (j := i + 2) (len := len) hc d_Lw_law_866 (by decide) hX hxl hxb (by omega) hlen ?_
  refine fm_aload_n hc d_Lw_law_867 rfl rfl ?_
  refine fm_iload hc d_Lw_law_868 rfl ?_
  refine fm_iconst (v := nI 3) hc d_Lw_law_870 rfl ?_
  refine fm_iadd hc d_Lw_law_871 ?_
  refine fm_top (congrArg Value.int (nI_add i 3)) ?_
  refine fm_sald (o := 0) (j := i + 3) (len := len) hc d_Lw_law_872 (by decide) hX hxl hxb (by omega) hlen ?_
  refine fm_callV (av := [.int (f (i + 1)), .int (f (i + 2)), .int (f (i + 3))]) (rest := []) (ob := 8) (ci := 0) (r0 := ("AgentNet", F_An, 8)) (y := y_An_agent) (bytes := b_An_agent) hc fm_T0_good (fm_EX_st b x) hex q_420 q_1 q_417 q_418 q_419 pd_An_agent (by decide) (by decide) (by decide) (by decide) rfl rfl (h1) ⟨rfl, rfl, by show fr1 + 1 ≤ 12; omega, by show 8 + (4 + 11) + lo1 ≤ 464; omega⟩ hz d_Lw_law_873 (Nat.le_of_ble_eq_true rfl) (fun r n2 M2 hp => ?_)
  obtain ⟨rfl, hq1, hA⟩ := hp
  subst hq1
  obtain ⟨fr2, lo2, PB, hr3, hr4, h2b, hB⟩ := h2 M2 hA
  refine fm_cnt (z' := z) rfl (fm_st (st' := [.int t]) rfl ?_)
  refine fm_aload_n hc d_Lw_law_876 rfl rfl ?_
  refine fm_aload_n hc d_Lw_law_877 rfl rfl ?_
  refine fm_iload hc d_Lw_law_878 rfl ?_
  refine fm_iconst (v := nI 1) hc d_Lw_law_880 rfl ?_
  refine fm_iadd hc d_Lw_law_881 ?_
  refine fm_top (congrArg Value.int (nI_add i 1)) ?_
  refine fm_sald (o := 0) (j := i + 1) (len := len) hc d_Lw_law_882 (by decide) hX hxl hxb (by omega) hlen ?_
  refine fm_aload_n hc d_Lw_law_883 rfl rfl ?_
  refine fm_iload hc d_Lw_law_884 rfl ?_
  refine fm_iconst (v := nI 2) hc d_Lw_law_886 rfl ?_
  refine fm_iadd hc d_Lw_law_887 ?_
  refine fm_top (congrArg Value.int (nI_add i 2)) ?_
  refine fm_sald (o := 0) (j := i + 2) (len := len) hc d_Lw_law_888 (by decide) hX hxl hxb (by omega) hlen ?_
  refine fm_aload_n hc d_Lw_law_889 rfl rfl ?_
  refine fm_iload hc d_Lw_law_890 rfl ?_
  refine fm_iconst (v := nI 3) hc d_Lw_law_892 rfl ?_
  refine fm_iadd hc d_Lw_law_893 ?_
  refine fm_top (congrArg Value.int (nI_add i 3)) ?_
  refine fm_sald (o := 0) (j := i + 3) (len := len) hc d_Lw_law_894 (by decide) hX hxl hxb (by omega) hlen ?_
  refine fm_callV (av := [.int (f (i + 1)), .int (f (i + 2)), .int (f (i + 3))]) (rest := [.int t]) (ob := 586) (ci := 11) (r0 := ("AgentNetModel", F_Mo, 51)) (y := y_Mo_agent) (bytes := b_Mo_agent) hc fm_T0_good (fm_EX_st b x) hex q_1250 q_13 q_1247 q_1248 q_1249 pd_Mo_agent (by decide) (by decide) (by decide) (by decide) rfl rfl (h2b) ⟨rfl, rfl, by show fr2 + 1 ≤ 12; omega, by show 8 + (5 + 11) + lo2 ≤ 464; omega⟩ hz d_Lw_law_895 (Nat.le_of_ble_eq_true rfl) (fun r n2 M3 hp => ?_)
  obtain ⟨rfl, hq1, hA2⟩ := hp
  subst hq1
  refine fm_cnt (z' := z) rfl (fm_st (st' := [.int t, .int t]) rfl ?_)
  exact fm_icmp_eq (tgt := 1091) hc d_Lw_law_898 rfl (fun _ => kk _ (hB _ hA2)) (fun g => absurd rfl g)
theorem lw_host (hc : fm_Cx p s m args meth c fm_cl b D 7 b_Lw_law "AgentNetLaw" fm_T0 (fm_tys dA)) (hex : fm_EX b x s) (hX : va_X (x 0) len f s s.heap) (hxl : x 0 < s.heap.size) (hxb : x 0 < b) (hlen : len < 2 ^ 31) (hi : i + 5 ≤ len) {t : Int32} {PA : fm_M → Prop} {fr1 lo1 : Nat} (hr1 : fr1 ≤ 10) (hr2 : lo1 ≤ 400) (hz : z.1 + 0 ≤ room_1.cells ∧ z.2 + 0 ≤ room_1.slots) (h1 : Met l y_An_host (Cond.code y_An_host b_An_host 3 (some .int) :: fm_T0) ({ frames := fr1, cells := 0, slots := 0, locals := lo1 }) (fm_Pc fm_lay fm_nf fm_fk fm_cl b x D dA (fm_tys dA) (fm_EX b x) false [.ref 8, .int (f (i + 1)), .int (f (i + 2))] 630 M) (fm_Qc fm_lay fm_nf fm_fk fm_cl b x D dA (fun r n' M' => r = some (.int t) ∧ n' = 630 ∧ PA M')) 0 0 (fm_A b)) (h2 : ∀ M1, PA M1 → ∃ (fr2 lo2 : Nat) (PB : fm_M → Prop), fr2 ≤ 10 ∧ lo2 ≤ 400 ∧ Met l y_Mo_host (Cond.code y_Mo_host b_Mo_host 3 (some .int) :: fm_T0) ({ frames := fr2, cells := 0, slots := 0, locals := lo2 }) (fm_Pc fm_lay fm_nf fm_fk fm_cl b x D dA (fm_tys dA) (fm_EX b x) false [.ref 586, .int (f (i + 1)), .int (f (i + 2))] 630 M1) (fm_Qc fm_lay fm_nf fm_fk fm_cl b x D dA (fun r n' M' => r = some (.int t) ∧ n' = 630 ∧ PB M')) 0 0 (fm_A b) ∧ ∀ M', PB M' → B M') (kk : ∀ M', B M' → fm_G p l e room_1 s m args below meth c Q fm_lay fm_nf fm_fk fm_cl b x D dA 7 1091 [(4, .int (nI i)), (3, .ref 629), (2, .ref 586), (1, .ref 8), (0, .ref 0)] [] 630 M' z) : fm_G p l e room_1 s m args below meth c Q fm_lay fm_nf fm_fk fm_cl b x D dA 7 903 [(4, .int (nI i)), (3, .ref 629), (2, .ref 586), (1, .ref 8), (0, .ref 0)] [] 630 M z := by
  refine fm_aload_n hc d_Lw_law_903 rfl rfl ?_
  refine fm_aload_n hc d_Lw_law_904 rfl rfl ?_
  refine fm_iload hc d_Lw_law_905 rfl ?_
  refine fm_iconst (v := nI 1) hc d_Lw_law_907 rfl ?_
  refine fm_iadd hc d_Lw_law_908 ?_
  refine fm_top (congrArg Value.int (nI_add i 1)) ?_
  refine fm_sald (o := 0) (j := i + 1) (len := len) hc d_Lw_law_909 (by decide) hX hxl hxb (by omega) hlen ?_
  refine fm_aload_n hc d_Lw_law_910 rfl rfl ?_
  refine fm_iload hc d_Lw_law_911 rfl ?_
  refine fm_iconst (v := nI 2) hc d_Lw_law_913 rfl ?_
  refine fm_iadd hc d_Lw_law_914 ?_
  refine fm_top (congrArg Value.int (nI_add i 2)) ?_
  refine fm_sald (o := 0) (j := i + 2) (len := len) hc d_Lw_law_915 (by decide) hX hxl hxb (by omega) hlen ?_
  refine fm_callV (av := [.int (f (i + 1)), .int (f (i + 2))]) (rest := []) (ob := 8) (ci := 0) (r0 := ("AgentNet", F_An, 8)) (y := y_An_host) (bytes := b_An_host) hc fm_T0_good (fm_EX_st b x) hex q_432 q_1 q_429 q_430 q_431 pd_An_host (by decide) (by decide) (by decide) (by decide) rfl rfl (h1) ⟨rfl, rfl, by show fr1 + 1 ≤ 12; omega, by show 8 + (3 + 11) + lo1 ≤ 464; omega⟩ hz d_Lw_law_916 (Nat.le_of_ble_eq_true rfl) (fun r n2 M2 hp => ?_)
  obtain ⟨rfl, hq1, hA⟩ := hp
  subst hq1
  obtain ⟨fr2, lo2, PB, hr3, hr4, h2b, hB⟩ := h2 M2 hA
  refine fm_cnt (z' := z) rfl (fm_st (st' := [.int t]) rfl ?_)
  refine fm_aload_n hc d_Lw_law_919 rfl rfl ?_
  refine fm_aload_n hc d_Lw_law_920 rfl rfl ?_
  refine fm_iload hc d_Lw_law_921 rfl ?_
  refine fm_iconst (v := nI 1) hc d_Lw_law_923 rfl ?_
  refine fm_iadd hc d_Lw_law_924 ?_
  refine fm_top (congrArg Value.int (nI_add i 1)) ?_
  refine fm_sald (o := 0) (j := i + 1) (len := len) hc d_Lw_law_925 (by decide) hX hxl hxb (by omega) hlen ?_
  refine fm_aload_n hc d_Lw_law_926 rfl rfl ?_
  refine fm_iload hc d_Lw_law_927 rfl ?_
  refine fm_iconst (v := nI 2) hc d_Lw_law_929 rfl ?_
  refine fm_iadd hc d_Lw_law_930 ?_
  refine fm_top (congrArg Value.int (nI_add i 2)) ?_
  refine fm_sald (o := 0) (j := i + 2) (len := len) hc d_Lw_law_931 (by decide) hX hxl hxb (by omega) hlen ?_
  refine fm_callV (av := [.int (f (i + 1)), .int (f (i + 2))]) (rest := [.int t]) (ob := 586) (ci := 11) (r0 := ("AgentNetModel", F_Mo, 51)) (y := y_Mo_host) (bytes := b_Mo_host) hc fm_T0_good (fm_EX_st b x) hex q_1254 q_13 q_1251 q_1252 q_1253 pd_Mo_host (by decide) (by decide) (by decide) (by decide) rfl rfl (h2b) ⟨rfl, rfl, by show fr2 + 1 ≤ 12; omega, by show 8 + (3 + 11) + lo2 ≤ 464; omega⟩ hz d_Lw_law_932 (Nat.le_of_ble_eq_true rfl) (fun r n2 M3 hp => ?_)
  obtain ⟨rfl, hq1, hA2⟩ := hp
  subst hq1
  refine fm_cnt (z' := z) rfl (fm_st (st' := [.int t, .int t]) rfl ?_)
  exact fm_icmp_eq (tgt := 1091) hc d_Lw_law_935 rfl (fun _ => kk _ (hB _ hA2)) (fun g => absurd rfl g)
theorem lw_sealed (hc : fm_Cx p s m args meth c fm_cl b D 7 b_Lw_law "AgentNetLaw" fm_T0 (fm_tys dA)) (hex : fm_EX b x s) (hX : va_X (x 0) len f s s.heap) (hxl : x 0 < s.heap.size) (hxb : x 0 < b) (hlen : len < 2 ^ 31) (hi : i + 5 ≤ len) {t : Int32} {PA : fm_M → Prop} {fr1 lo1 : Nat} (hr1 : fr1 ≤ 10) (hr2 : lo1 ≤ 400) (hz : z.1 + 0 ≤ room_1.cells ∧ z.2 + 0 ≤ room_1.slots) (h1 : Met l y_An_sealed (Cond.code y_An_sealed b_An_sealed 7 (some .int) :: fm_T0) ({ frames := fr1, cells := 0, slots := 0, locals := lo1 }) (fm_Pc fm_lay fm_nf fm_fk fm_cl b x D dA (fm_tys dA) (fm_EX b x) false [.ref 8, .int (f (i + 1))] 630 M) (fm_Qc fm_lay fm_nf fm_fk fm_cl b x D dA (fun r n' M' => r = some (.int t) ∧ n' = 630 ∧ PA M')) 0 0 (fm_A b)) (h2 : ∀ M1, PA M1 → ∃ (fr2 lo2 : Nat) (PB : fm_M → Prop), fr2 ≤ 10 ∧ lo2 ≤ 400 ∧ Met l y_Mo_sealed (Cond.code y_Mo_sealed b_Mo_sealed 8 (some .int) :: fm_T0) ({ frames := fr2, cells := 0, slots := 0, locals := lo2 }) (fm_Pc fm_lay fm_nf fm_fk fm_cl b x D dA (fm_tys dA) (fm_EX b x) false [.ref 586, .int (f (i + 1))] 630 M1) (fm_Qc fm_lay fm_nf fm_fk fm_cl b x D dA (fun r n' M' => r = some (.int t) ∧ n' = 630 ∧ PB M')) 0 0 (fm_A b) ∧ ∀ M', PB M' → B M') (kk : ∀ M', B M' → fm_G p l e room_1 s m args below meth c Q fm_lay fm_nf fm_fk fm_cl b x D dA 7 1091 [(4, .int (nI i)), (3, .ref 629), (2, .ref 586), (1, .ref 8), (0, .ref 0)] [] 630 M' z) : fm_G p l e room_1 s m args below meth c Q fm_lay fm_nf fm_fk fm_cl b x D dA 7 940 [(4, .int (nI i)), (3, .ref 629), (2, .ref 586), (1, .ref 8), (0, .ref 0)] [] 630 M z := by
  refine fm_aload_n hc d_Lw_law_940 rfl rfl ?_
  refine fm_aload_n hc d_Lw_law_941 rfl rfl ?_
  refine fm_iload hc d_Lw_law_942 rfl ?_
  refine fm_iconst (v := nI 1) hc d_Lw_law_944 rfl ?_
  refine fm_iadd hc d_Lw_law_945 ?_
  refine fm_top (congrArg Value.int (nI_add i 1)) ?_
  refine fm_sald (o := 0) (j := i + 1) (len := len) hc d_Lw_law_946 (by decide) hX hxl hxb (by omega) hlen ?_
  refine fm_callV (av := [.int (f (i + 1))]) (rest := []) (ob := 8) (ci := 0) (r0 := ("AgentNet", F_An, 8)) (y := y_An_sealed) (bytes := b_An_sealed) hc fm_T0_good (fm_EX_st b x) hex q_440 q_1 q_437 q_438 q_439 pd_An_sealed (by decide) (by decide) (by decide) (by decide) rfl rfl (h1) ⟨rfl, rfl, by show fr1 + 1 ≤ 12; omega, by show 8 + (7 + 11) + lo1 ≤ 464; omega⟩ hz d_Lw_law_947 (Nat.le_of_ble_eq_true rfl) (fun r n2 M2 hp => ?_)
  obtain ⟨rfl, hq1, hA⟩ := hp
  subst hq1
  obtain ⟨fr2, lo2, PB, hr3, hr4, h2b, hB⟩ := h2 M2 hA
  refine fm_cnt (z' := z) rfl (fm_st (st' := [.int t]) rfl ?_)
  refine fm_aload_n hc d_Lw_law_950 rfl rfl ?_
  refine fm_aload_n hc d_Lw_law_951 rfl rfl ?_
  refine fm_iload hc d_Lw_law_952 rfl ?_
  refine fm_iconst (v := nI 1) hc d_Lw_law_954 rfl ?_
  refine fm_iadd hc d_Lw_law_955 ?_
  refine fm_top (congrArg Value.int (nI_add i 1)) ?_
  refine fm_sald (o := 0) (j := i + 1) (len := len) hc d_Lw_law_956 (by decide) hX hxl hxb (by omega) hlen ?_
  refine fm_callV (av := [.int (f (i + 1))]) (rest := [.int t]) (ob := 586) (ci := 11) (r0 := ("AgentNetModel", F_Mo, 51)) (y := y_Mo_sealed) (bytes := b_Mo_sealed) hc fm_T0_good (fm_EX_st b x) hex q_1258 q_13 q_1255 q_1256 q_1257 pd_Mo_sealed (by decide) (by decide) (by decide) (by decide) rfl rfl (h2b) ⟨rfl, rfl, by show fr2 + 1 ≤ 12; omega, by show 8 + (8 + 11) + lo2 ≤ 464; omega⟩ hz d_Lw_law_957 (Nat.le_of_ble_eq_true rfl) (fun r n2 M3 hp => ?_)
  obtain ⟨rfl, hq1, hA2⟩ := hp
  subst hq1
  refine fm_cnt (z' := z) rfl (fm_st (st' := [.int t, .int t]) rfl ?_)
  exact fm_icmp_eq (tgt := 1091) hc d_Lw_law_960 rfl (fun _ => kk _ (hB _ hA2)) (fun g => absurd rfl g)
theorem lw_outputs (hc : fm_Cx p s m args meth c fm_cl b D 7 b_Lw_law "AgentNetLaw" fm_T0 (fm_tys dA)) (hex : fm_EX b x s) (hX : va_X (x 0) len f s s.heap) (hxl : x 0 < s.heap.size) (hxb : x 0 < b) (hlen : len < 2 ^ 31) (hi : i + 5 ≤ len) {t : Int32} {PA : fm_M → Prop} {fr1 lo1 : Nat} (hr1 : fr1 ≤ 10) (hr2 : lo1 ≤ 400) (hz : z.1 + 0 ≤ room_1.cells ∧ z.2 + 0 ≤ room_1.slots) (h1 : Met l y_An_outputs (Cond.code y_An_outputs b_An_outputs 2 (some .int) :: fm_T0) ({ frames := fr1, cells := 0, slots := 0, locals := lo1 }) (fm_Pc fm_lay fm_nf fm_fk fm_cl b x D dA (fm_tys dA) (fm_EX b x) false [.ref 8, .int (f (i + 1))] 630 M) (fm_Qc fm_lay fm_nf fm_fk fm_cl b x D dA (fun r n' M' => r = some (.int t) ∧ n' = 630 ∧ PA M')) 0 0 (fm_A b)) (h2 : ∀ M1, PA M1 → ∃ (fr2 lo2 : Nat) (PB : fm_M → Prop), fr2 ≤ 10 ∧ lo2 ≤ 400 ∧ Met l y_Mo_outputs (Cond.code y_Mo_outputs b_Mo_outputs 2 (some .int) :: fm_T0) ({ frames := fr2, cells := 0, slots := 0, locals := lo2 }) (fm_Pc fm_lay fm_nf fm_fk fm_cl b x D dA (fm_tys dA) (fm_EX b x) false [.ref 586, .int (f (i + 1))] 630 M1) (fm_Qc fm_lay fm_nf fm_fk fm_cl b x D dA (fun r n' M' => r = some (.int t) ∧ n' = 630 ∧ PB M')) 0 0 (fm_A b) ∧ ∀ M', PB M' → B M') (kk : ∀ M', B M' → fm_G p l e room_1 s m args below meth c Q fm_lay fm_nf fm_fk fm_cl b x D dA 7 1091 [(4, .int (nI i)), (3, .ref 629), (2, .ref 586), (1, .ref 8), (0, .ref 0)] [] 630 M' z) : fm_G p l e room_1 s m args below meth c Q fm_lay fm_nf fm_fk fm_cl b x D dA 7 965 [(4, .int (nI i)), (3, .ref 629), (2, .ref 586), (1, .ref 8), (0, .ref 0)] [] 630 M z := by
  refine fm_aload_n hc d_Lw_law_965 rfl rfl ?_
  refine fm_aload_n hc d_Lw_law_966 rfl rfl ?_
  refine fm_iload hc d_Lw_law_967 rfl ?_
  refine fm_iconst (v := nI 1) hc d_Lw_law_969 rfl ?_
  refine fm_iadd hc d_Lw_law_970 ?_
  refine fm_top (congrArg Value.int (nI_add i 1)) ?_
  refine fm_sald (o := 0) (j := i + 1) (len := len) hc d_Lw_law_971 (by decide) hX hxl hxb (by omega) hlen ?_
  refine fm_callV (av := [.int (f (i + 1))]) (rest := []) (ob := 8) (ci := 0) (r0 := ("AgentNet", F_An, 8)) (y := y_An_outputs) (bytes := b_An_outputs) hc fm_T0_good (fm_EX_st b x) hex q_451 q_1 q_448 q_449 q_450 pd_An_outputs (by decide) (by decide) (by decide) (by decide) rfl rfl (h1) ⟨rfl, rfl, by show fr1 + 1 ≤ 12; omega, by show 8 + (2 + 11) + lo1 ≤ 464; omega⟩ hz d_Lw_law_972 (Nat.le_of_ble_eq_true rfl) (fun r n2 M2 hp => ?_)
  obtain ⟨rfl, hq1, hA⟩ := hp
  subst hq1
  obtain ⟨fr2, lo2, PB, hr3, hr4, h2b, hB⟩ := h2 M2 hA
  refine fm_cnt (z' := z) rfl (fm_st (st' := [.int t]) rfl ?_)
  refine fm_aload_n hc d_Lw_law_975 rfl rfl ?_
  refine fm_aload_n hc d_Lw_law_976 rfl rfl ?_
  refine fm_iload hc d_Lw_law_977 rfl ?_
  refine fm_iconst (v := nI 1) hc d_Lw_law_979 rfl ?_
  refine fm_iadd hc d_Lw_law_980 ?_
  refine fm_top (congrArg Value.int (nI_add i 1)) ?_
  refine fm_sald (o := 0) (j := i + 1) (len := len) hc d_Lw_law_981 (by decide) hX hxl hxb (by omega) hlen ?_
  refine fm_callV (av := [.int (f (i + 1))]) (rest := [.int t]) (ob := 586) (ci := 11) (r0 := ("AgentNetModel", F_Mo, 51)) (y := y_Mo_outputs) (bytes := b_Mo_outputs) hc fm_T0_good (fm_EX_st b x) hex q_1262 q_13 q_1259 q_1260 q_1261 pd_Mo_outputs (by decide) (by decide) (by decide) (by decide) rfl rfl (h2b) ⟨rfl, rfl, by show fr2 + 1 ≤ 12; omega, by show 8 + (2 + 11) + lo2 ≤ 464; omega⟩ hz d_Lw_law_982 (Nat.le_of_ble_eq_true rfl) (fun r n2 M3 hp => ?_)
  obtain ⟨rfl, hq1, hA2⟩ := hp
  subst hq1
  refine fm_cnt (z' := z) rfl (fm_st (st' := [.int t, .int t]) rfl ?_)
  exact fm_icmp_eq (tgt := 1091) hc d_Lw_law_985 rfl (fun _ => kk _ (hB _ hA2)) (fun g => absurd rfl g)
theorem lw_output (hc : fm_Cx p s m args meth c fm_cl b D 7 b_Lw_law "AgentNetLaw" fm_T0 (fm_tys dA)) (hex : fm_EX b x s) (hX : va_X (x 0) len f s s.heap) (hxl : x 0 < s.heap.size) (hxb : x 0 < b) (hlen : len < 2 ^ 31) (hi : i + 5 ≤ len) {t : Int64} {PA : fm_M → Prop} {fr1 lo1 : Nat} (hr1 : fr1 ≤ 10) (hr2 : lo1 ≤ 400) (hz : z.1 + 0 ≤ room_1.cells ∧ z.2 + 0 ≤ room_1.slots) (h1 : Met l y_An_output (Cond.code y_An_output b_An_output 3 (some .long) :: fm_T0) ({ frames := fr1, cells := 0, slots := 0, locals := lo1 }) (fm_Pc fm_lay fm_nf fm_fk fm_cl b x D dA (fm_tys dA) (fm_EX b x) false [.ref 8, .int (f (i + 1)), .int (f (i + 2))] 630 M) (fm_Qc fm_lay fm_nf fm_fk fm_cl b x D dA (fun r n' M' => r = some (.long t) ∧ n' = 630 ∧ PA M')) 0 0 (fm_A b)) (h2 : ∀ M1, PA M1 → ∃ (fr2 lo2 : Nat) (PB : fm_M → Prop), fr2 ≤ 10 ∧ lo2 ≤ 400 ∧ Met l y_Mo_output (Cond.code y_Mo_output b_Mo_output 3 (some .long) :: fm_T0) ({ frames := fr2, cells := 0, slots := 0, locals := lo2 }) (fm_Pc fm_lay fm_nf fm_fk fm_cl b x D dA (fm_tys dA) (fm_EX b x) false [.ref 586, .int (f (i + 1)), .int (f (i + 2))] 630 M1) (fm_Qc fm_lay fm_nf fm_fk fm_cl b x D dA (fun r n' M' => r = some (.long t) ∧ n' = 630 ∧ PB M')) 0 0 (fm_A b) ∧ ∀ M', PB M' → B M') (kk : ∀ M', B M' → fm_G p l e room_1 s m args below meth c Q fm_lay fm_nf fm_fk fm_cl b x D dA 7 1091 [(4, .int (nI i)), (3, .ref 629), (2, .ref 586), (1, .ref 8), (0, .ref 0)] [] 630 M' z) : fm_G p l e room_1 s m args below meth c Q fm_lay fm_nf fm_fk fm_cl b x D dA 7 990 [(4, .int (nI i)), (3, .ref 629), (2, .ref 586), (1, .ref 8), (0, .ref 0)] [] 630 M z := by
  refine fm_aload_n hc d_Lw_law_990 rfl rfl ?_
  refine fm_aload_n hc d_Lw_law_991 rfl rfl ?_
  refine fm_iload hc d_Lw_law_992 rfl ?_
  refine fm_iconst (v := nI 1) hc d_Lw_law_994 rfl ?_
  refine fm_iadd hc d_Lw_law_995 ?_
  refine fm_top (congrArg Value.int (nI_add i 1)) ?_
  refine fm_sald (o := 0) (j := i + 1) (len := len) hc d_Lw_law_996 (by decide) hX hxl hxb (by omega) hlen ?_
  refine fm_aload_n hc d_Lw_law_997 rfl rfl ?_
  refine fm_iload hc d_Lw_law_998 rfl ?_
  refine fm_iconst (v := nI 2) hc d_Lw_law_1000 rfl ?_
  refine fm_iadd hc d_Lw_law_1001 ?_
  refine fm_top (congrArg Value.int (nI_add i 2)) ?_
  refine fm_sald (o := 0) (j := i + 2) (len := len) hc d_Lw_law_1002 (by decide) hX hxl hxb (by omega) hlen ?_
  refine fm_callV (av := [.int (f (i + 1)), .int (f (i + 2))]) (rest := []) (ob := 8) (ci := 0) (r0 := ("AgentNet", F_An, 8)) (y := y_An_output) (bytes := b_An_output) hc fm_T0_good (fm_EX_st b x) hex q_465 q_1 q_462 q_463 q_464 pd_An_output (by decide) (by decide) (by decide) (by decide) rfl rfl (h1) ⟨rfl, rfl, by show fr1 + 1 ≤ 12; omega, by show 8 + (3 + 11) + lo1 ≤ 464; omega⟩ hz d_Lw_law_1003 (Nat.le_of_ble_eq_true rfl) (fun r n2 M2 hp => ?_)
  obtain ⟨rfl, hq1, hA⟩ := hp
  subst hq1
  obtain ⟨fr2, lo2, PB, hr3, hr4, h2b, hB⟩ := h2 M2 hA
  refine fm_cnt (z' := z) rfl (fm_st (st' := [.long t]) rfl ?_)
  refine fm_aload_n hc d_Lw_law_1006 rfl rfl ?_
  refine fm_aload_n hc d_Lw_law_1007 rfl rfl ?_
  refine fm_iload hc d_Lw_law_1008 rfl ?_
  refine fm_iconst (v := nI 1) hc d_Lw_law_1010 rfl ?_
  refine fm_iadd hc d_Lw_law_1011 ?_
  refine fm_top (congrArg Value.int (nI_add i 1)) ?_
  refine fm_sald (o := 0) (j := i + 1) (len := len) hc d_Lw_law_1012 (by decide) hX hxl hxb (by omega) hlen ?_
  refine fm_aload_n hc d_Lw_law_1013 rfl rfl ?_
  refine fm_iload hc d_Lw_law_1014 rfl ?_
  refine fm_iconst (v := nI 2) hc d_Lw_law_1016 rfl ?_
  refine fm_iadd hc d_Lw_law_1017 ?_
  refine fm_top (congrArg Value.int (nI_add i 2)) ?_
  refine fm_sald (o := 0) (j := i + 2) (len := len) hc d_Lw_law_1018 (by decide) hX hxl hxb (by omega) hlen ?_
  refine fm_callV (av := [.int (f (i + 1)), .int (f (i + 2))]) (rest := [.long t]) (ob := 586) (ci := 11) (r0 := ("AgentNetModel", F_Mo, 51)) (y := y_Mo_output) (bytes := b_Mo_output) hc fm_T0_good (fm_EX_st b x) hex q_1266 q_13 q_1263 q_1264 q_1265 pd_Mo_output (by decide) (by decide) (by decide) (by decide) rfl rfl (h2b) ⟨rfl, rfl, by show fr2 + 1 ≤ 12; omega, by show 8 + (3 + 11) + lo2 ≤ 464; omega⟩ hz d_Lw_law_1019 (Nat.le_of_ble_eq_true rfl) (fun r n2 M3 hp => ?_)
  obtain ⟨rfl, hq1, hA2⟩ := hp
  subst hq1
  refine fm_cnt (z' := z) rfl (fm_st (st' := [.long t, .long t]) rfl ?_)
  refine fm_lcmp hc d_Lw_law_1022 ?_
  refine fm_top (congrArg Value.int (lg_cmp_self t)) ?_
  exact fm_if_eq (tgt := 1091) hc d_Lw_law_1023 rfl (fun _ => kk _ (hB _ hA2)) (fun g => absurd rfl g)
theorem lw_expected (hc : fm_Cx p s m args meth c fm_cl b D 7 b_Lw_law "AgentNetLaw" fm_T0 (fm_tys dA)) (hex : fm_EX b x s) (hX : va_X (x 0) len f s s.heap) (hxl : x 0 < s.heap.size) (hxb : x 0 < b) (hlen : len < 2 ^ 31) (hi : i + 5 ≤ len) {t : Int32} {PA : fm_M → Prop} {fr1 lo1 : Nat} (hr1 : fr1 ≤ 10) (hr2 : lo1 ≤ 400) (hz : z.1 + 0 ≤ room_1.cells ∧ z.2 + 0 ≤ room_1.slots) (h1 : Met l y_An_expected (Cond.code y_An_expected b_An_expected 2 (some .int) :: fm_T0) ({ frames := fr1, cells := 0, slots := 0, locals := lo1 }) (fm_Pc fm_lay fm_nf fm_fk fm_cl b x D dA (fm_tys dA) (fm_EX b x) false [.ref 8, .int (f (i + 1))] 630 M) (fm_Qc fm_lay fm_nf fm_fk fm_cl b x D dA (fun r n' M' => r = some (.int t) ∧ n' = 630 ∧ PA M')) 0 0 (fm_A b)) (h2 : ∀ M1, PA M1 → ∃ (fr2 lo2 : Nat) (PB : fm_M → Prop), fr2 ≤ 10 ∧ lo2 ≤ 400 ∧ Met l y_Mo_expected (Cond.code y_Mo_expected b_Mo_expected 2 (some .int) :: fm_T0) ({ frames := fr2, cells := 0, slots := 0, locals := lo2 }) (fm_Pc fm_lay fm_nf fm_fk fm_cl b x D dA (fm_tys dA) (fm_EX b x) false [.ref 586, .int (f (i + 1))] 630 M1) (fm_Qc fm_lay fm_nf fm_fk fm_cl b x D dA (fun r n' M' => r = some (.int t) ∧ n' = 630 ∧ PB M')) 0 0 (fm_A b) ∧ ∀ M', PB M' → B M') (kk : ∀ M', B M' → fm_G p l e room_1 s m args below meth c Q fm_lay fm_nf fm_fk fm_cl b x D dA 7 1091 [(4, .int (nI i)), (3, .ref 629), (2, .ref 586), (1, .ref 8), (0, .ref 0)] [] 630 M' z) : fm_G p l e room_1 s m args below meth c Q fm_lay fm_nf fm_fk fm_cl b x D dA 7 1028 [(4, .int (nI i)), (3, .ref 629), (2, .ref 586), (1, .ref 8), (0, .ref 0)] [] 630 M z := by
  refine fm_aload_n hc d_Lw_law_1028 rfl rfl ?_
  refine fm_aload_n hc d_Lw_law_1029 rfl rfl ?_
  refine fm_iload hc d_Lw_law_1030 rfl ?_
  refine fm_iconst (v := nI 1) hc d_Lw_law_1032 rfl ?_
  refine fm_iadd hc d_Lw_law_1033 ?_
  refine fm_top (congrArg Value.int (nI_add i 1)) ?_
  refine fm_sald (o := 0) (j := i + 1) (len := len) hc d_Lw_law_1034 (by decide) hX hxl hxb (by omega) hlen ?_
  refine fm_callV (av := [.int (f (i + 1))]) (rest := []) (ob := 8) (ci := 0) (r0 := ("AgentNet", F_An, 8)) (y := y_An_expected) (bytes := b_An_expected) hc fm_T0_good (fm_EX_st b x) hex q_475 q_1 q_472 q_473 q_474 pd_An_expected (by decide) (by decide) (by decide) (by decide) rfl rfl (h1) ⟨rfl, rfl, by show fr1 + 1 ≤ 12; omega, by show 8 + (2 + 11) + lo1 ≤ 464; omega⟩ hz d_Lw_law_1035 (Nat.le_of_ble_eq_true rfl) (fun r n2 M2 hp => ?_)
  obtain ⟨rfl, hq1, hA⟩ := hp
  subst hq1
  obtain ⟨fr2, lo2, PB, hr3, hr4, h2b, hB⟩ := h2 M2 hA
  refine fm_cnt (z' := z) rfl (fm_st (st' := [.int t]) rfl ?_)
  refine fm_aload_n hc d_Lw_law_1038 rfl rfl ?_
  refine fm_aload_n hc d_Lw_law_1039 rfl rfl ?_
  refine fm_iload hc d_Lw_law_1040 rfl ?_
  refine fm_iconst (v := nI 1) hc d_Lw_law_1042 rfl ?_
  refine fm_iadd hc d_Lw_law_1043 ?_
  refine fm_top (congrArg Value.int (nI_add i 1)) ?_
  refine fm_sald (o := 0) (j := i + 1) (len := len) hc d_Lw_law_1044 (by decide) hX hxl hxb (by omega) hlen ?_
  refine fm_callV (av := [.int (f (i + 1))]) (rest := [.int t]) (ob := 586) (ci := 11) (r0 := ("AgentNetModel", F_Mo, 51)) (y := y_Mo_expected) (bytes := b_Mo_expected) hc fm_T0_good (fm_EX_st b x) hex q_1270 q_13 q_1267 q_1268 q_1269 pd_Mo_expected (by decide) (by decide) (by decide) (by decide) rfl rfl (h2b) ⟨rfl, rfl, by show fr2 + 1 ≤ 12; omega, by show 8 + (2 + 11) + lo2 ≤ 464; omega⟩ hz d_Lw_law_1045 (Nat.le_of_ble_eq_true rfl) (fun r n2 M3 hp => ?_)
  obtain ⟨rfl, hq1, hA2⟩ := hp
  subst hq1
  refine fm_cnt (z' := z) rfl (fm_st (st' := [.int t, .int t]) rfl ?_)
  exact fm_icmp_eq (tgt := 1091) hc d_Lw_law_1048 rfl (fun _ => kk _ (hB _ hA2)) (fun g => absurd rfl g)
theorem lw_expectedOutput (hc : fm_Cx p s m args meth c fm_cl b D 7 b_Lw_law "AgentNetLaw" fm_T0 (fm_tys dA)) (hex : fm_EX b x s) (hX : va_X (x 0) len f s s.heap) (hxl : x 0 < s.heap.size) (hxb : x 0 < b) (hlen : len < 2 ^ 31) (hi : i + 5 ≤ len) {t : Int64} {PA : fm_M → Prop} {fr1 lo1 : Nat} (hr1 : fr1 ≤ 10) (hr2 : lo1 ≤ 400) (hz : z.1 + 0 ≤ room_1.cells ∧ z.2 + 0 ≤ room_1.slots) (h1 : Met l y_An_expectedOutput (Cond.code y_An_expectedOutput b_An_expectedOutput 3 (some .long) :: fm_T0) ({ frames := fr1, cells := 0, slots := 0, locals := lo1 }) (fm_Pc fm_lay fm_nf fm_fk fm_cl b x D dA (fm_tys dA) (fm_EX b x) false [.ref 8, .int (f (i + 1)), .int (f (i + 2))] 630 M) (fm_Qc fm_lay fm_nf fm_fk fm_cl b x D dA (fun r n' M' => r = some (.long t) ∧ n' = 630 ∧ PA M')) 0 0 (fm_A b)) (h2 : ∀ M1, PA M1 → ∃ (fr2 lo2 : Nat) (PB : fm_M → Prop), fr2 ≤ 10 ∧ lo2 ≤ 400 ∧ Met l y_Mo_expectedOutput (Cond.code y_Mo_expectedOutput b_Mo_expectedOutput 3 (some .long) :: fm_T0) ({ frames := fr2, cells := 0, slots := 0, locals := lo2 }) (fm_Pc fm_lay fm_nf fm_fk fm_cl b x D dA (fm_tys dA) (fm_EX b x) false [.ref 586, .int (f (i + 1)), .int (f (i + 2))] 630 M1) (fm_Qc fm_lay fm_nf fm_fk fm_cl b x D dA (fun r n' M' => r = some (.long t) ∧ n' = 630 ∧ PB M')) 0 0 (fm_A b) ∧ ∀ M', PB M' → B M') (kk : ∀ M', B M' → fm_G p l e room_1 s m args below meth c Q fm_lay fm_nf fm_fk fm_cl b x D dA 7 1091 [(4, .int (nI i)), (3, .ref 629), (2, .ref 586), (1, .ref 8), (0, .ref 0)] [] 630 M' z) : fm_G p l e room_1 s m args below meth c Q fm_lay fm_nf fm_fk fm_cl b x D dA 7 1053 [(4, .int (nI i)), (3, .ref 629), (2, .ref 586), (1, .ref 8), (0, .ref 0)] [] 630 M z := by
  refine fm_aload_n hc d_Lw_law_1053 rfl rfl ?_
  refine fm_aload_n hc d_Lw_law_1054 rfl rfl ?_
  refine fm_iload hc d_Lw_law_1055 rfl ?_
  refine fm_iconst (v := nI 1) hc d_Lw_law_1057 rfl ?_
  refine fm_iadd hc d_Lw_law_1058 ?_
  refine fm_top (congrArg Value.int (nI_add i 1)) ?_
  refine fm_sald (o := 0) (j := i + 1) (len := len) hc d_Lw_law_1059 (by decide) hX hxl hxb (by omega) hlen ?_
  refine fm_aload_n hc d_Lw_law_1060 rfl rfl ?_
  refine fm_iload hc d_Lw_law_1061 rfl ?_
  refine fm_iconst (v := nI 2) hc d_Lw_law_1063 rfl ?_
  refine fm_iadd hc d_Lw_law_1064 ?_
  refine fm_top (congrArg Value.int (nI_add i 2)) ?_
  refine fm_sald (o := 0) (j := i + 2) (len := len) hc d_Lw_law_1065 (by decide) hX hxl hxb (by omega) hlen ?_
  refine fm_callV (av := [.int (f (i + 1)), .int (f (i + 2))]) (rest := []) (ob := 8) (ci := 0) (r0 := ("AgentNet", F_An, 8)) (y := y_An_expectedOutput) (bytes := b_An_expectedOutput) hc fm_T0_good (fm_EX_st b x) hex q_479 q_1 q_476 q_477 q_478 pd_An_expectedOutput (by decide) (by decide) (by decide) (by decide) rfl rfl (h1) ⟨rfl, rfl, by show fr1 + 1 ≤ 12; omega, by show 8 + (3 + 11) + lo1 ≤ 464; omega⟩ hz d_Lw_law_1066 (Nat.le_of_ble_eq_true rfl) (fun r n2 M2 hp => ?_)
  obtain ⟨rfl, hq1, hA⟩ := hp
  subst hq1
  obtain ⟨fr2, lo2, PB, hr3, hr4, h2b, hB⟩ := h2 M2 hA
  refine fm_cnt (z' := z) rfl (fm_st (st' := [.long t]) rfl ?_)
  refine fm_aload_n hc d_Lw_law_1069 rfl rfl ?_
  refine fm_aload_n hc d_Lw_law_1070 rfl rfl ?_
  refine fm_iload hc d_Lw_law_1071 rfl ?_
  refine fm_iconst (v := nI 1) hc d_Lw_law_1073 rfl ?_
  refine fm_iadd hc d_Lw_law_1074 ?_
  refine fm_top (congrArg Value.int (nI_add i 1)) ?_
  refine fm_sald (o := 0) (j := i + 1) (len := len) hc d_Lw_law_1075 (by decide) hX hxl hxb (by omega) hlen ?_
  refine fm_aload_n hc d_Lw_law_1076 rfl rfl ?_
  refine fm_iload hc d_Lw_law_1077 rfl ?_
  refine fm_iconst (v := nI 2) hc d_Lw_law_1079 rfl ?_
  refine fm_iadd hc d_Lw_law_1080 ?_
  refine fm_top (congrArg Value.int (nI_add i 2)) ?_
  refine fm_sald (o := 0) (j := i + 2) (len := len) hc d_Lw_law_1081 (by decide) hX hxl hxb (by omega) hlen ?_
  refine fm_callV (av := [.int (f (i + 1)), .int (f (i + 2))]) (rest := [.long t]) (ob := 586) (ci := 11) (r0 := ("AgentNetModel", F_Mo, 51)) (y := y_Mo_expectedOutput) (bytes := b_Mo_expectedOutput) hc fm_T0_good (fm_EX_st b x) hex q_1282 q_13 q_1279 q_1280 q_1281 pd_Mo_expectedOutput (by decide) (by decide) (by decide) (by decide) rfl rfl (h2b) ⟨rfl, rfl, by show fr2 + 1 ≤ 12; omega, by show 8 + (3 + 11) + lo2 ≤ 464; omega⟩ hz d_Lw_law_1082 (Nat.le_of_ble_eq_true rfl) (fun r n2 M3 hp => ?_)
  obtain ⟨rfl, hq1, hA2⟩ := hp
  subst hq1
  refine fm_cnt (z' := z) rfl (fm_st (st' := [.long t, .long t]) rfl ?_)
  refine fm_lcmp hc d_Lw_law_1085 ?_
  refine fm_top (congrArg Value.int (lg_cmp_self t)) ?_
  exact fm_if_eq (tgt := 1091) hc d_Lw_law_1086 rfl (fun _ => kk _ (hB _ hA2)) (fun g => absurd rfl g)
theorem lw_launch (hc : fm_Cx p s m args meth c fm_cl b D 7 b_Lw_law "AgentNetLaw" fm_T0 (fm_tys dA)) (hex : fm_EX b x s) (hX : va_X (x 0) len f s s.heap) (hxl : x 0 < s.heap.size) (hxb : x 0 < b) (hlen : len < 2 ^ 31) (hi : i + 5 ≤ len) {k : Int32} {PA : fm_M → Prop} {fr1 lo1 : Nat} (hr1 : fr1 ≤ 11) (hr2 : lo1 ≤ 430) (hz : z.1 + 1 ≤ room_1.cells ∧ z.2 + 6 ≤ room_1.slots) (h1 : Met l y_Lw_launch (Cond.codeWith y_Lw_launch b_Lw_launch 6 (some .int) [(0, 12, 15, 13), (0, 12, 19, 15)] :: fm_T0) ({ frames := fr1, cells := 1, slots := 6, locals := lo1 }) (fm_Pc fm_lay fm_nf fm_fk fm_cl b x D dA (fm_tys dA) (fm_EX b x) false [.ref 8, .int (f (i + 1)), .int (f (i + 2)), .int (f (i + 3)), .ref 629] 630 M) (fm_Qc fm_lay fm_nf fm_fk fm_cl b x D dA (fun r n' M' => r = some (.int k) ∧ n' = 630 ∧ PA M')) 1 6 (fm_A b)) (h2 : ∀ M1, PA M1 → ∃ (u : Int32) (fr2 lo2 : Nat) (PB : fm_M → Prop), fr2 ≤ 10 ∧ lo2 ≤ 400 ∧ Met l y_Mo_launch (Cond.code y_Mo_launch b_Mo_launch 4 (some .int) :: fm_T0) ({ frames := fr2, cells := 0, slots := 0, locals := lo2 }) (fm_Pc fm_lay fm_nf fm_fk fm_cl b x D dA (fm_tys dA) (fm_EX b x) false [.ref 586, .int (f (i + 1)), .int (f (i + 2)), .int (f (i + 3))] 630 M1) (fm_Qc fm_lay fm_nf fm_fk fm_cl b x D dA (fun r n' M' => r = some (.int u) ∧ n' = 630 ∧ PB M')) 0 0 (fm_A b) ∧ ∀ M', PB M' → M'.1 586 0 = k ∧ (k = 0 → M'.2.1 629 0 = u.toInt64) ∧ B M') (kk : ∀ M', B M' → fm_G p l e room_1 s m args below meth c Q fm_lay fm_nf fm_fk fm_cl b x D dA 7 1091 [(4, .int (nI i)), (3, .ref 629), (2, .ref 586), (1, .ref 8), (0, .ref 0)] [] 630 M' (z.1 + 1, z.2 + 6)) : fm_G p l e room_1 s m args below meth c Q fm_lay fm_nf fm_fk fm_cl b x D dA 7 258 [(4, .int (nI i)), (3, .ref 629), (2, .ref 586), (1, .ref 8), (0, .ref 0)] [] 630 M z := by
  refine fm_aload_n hc d_Lw_law_258 rfl rfl ?_
  refine fm_aload_n hc d_Lw_law_259 rfl rfl ?_
  refine fm_iload hc d_Lw_law_260 rfl ?_
  refine fm_iconst (v := nI 1) hc d_Lw_law_262 rfl ?_
  refine fm_iadd hc d_Lw_law_263 ?_
  refine fm_top (congrArg Value.int (nI_add i 1)) ?_
  refine fm_sald (o := 0) (j := i + 1) (len := len) hc d_Lw_law_264 (by decide) hX hxl hxb (by omega) hlen ?_
  refine fm_aload_n hc d_Lw_law_265 rfl rfl ?_
  refine fm_iload hc d_Lw_law_266 rfl ?_
  refine fm_iconst (v := nI 2) hc d_Lw_law_268 rfl ?_
  refine fm_iadd hc d_Lw_law_269 ?_
  refine fm_top (congrArg Value.int (nI_add i 2)) ?_
  refine fm_sald (o := 0) (j := i + 2) (len := len) hc d_Lw_law_270 (by decide) hX hxl hxb (by omega) hlen ?_
  refine fm_aload_n hc d_Lw_law_271 rfl rfl ?_
  refine fm_iload hc d_Lw_law_272 rfl ?_
  refine fm_iconst (v := nI 3) hc d_Lw_law_274 rfl ?_
  refine fm_iadd hc d_Lw_law_275 ?_
  refine fm_top (congrArg Value.int (nI_add i 3)) ?_
  refine fm_sald (o := 0) (j := i + 3) (len := len) hc d_Lw_law_276 (by decide) hX hxl hxb (by omega) hlen ?_
  refine fm_aload_n hc d_Lw_law_277 rfl rfl ?_
  refine fm_callSW (av := [.ref 8, .int (f (i + 1)), .int (f (i + 2)), .int (f (i + 3)), .ref 629]) (rest := []) (y := y_Lw_launch) (bytes := b_Lw_launch) hc fm_T0_good (fm_EX_st b x) hex q_482 q_0 q_480 q_481 pd_Lw_launch (h1) ⟨rfl, rfl, by show fr1 + 1 ≤ 12; omega, by show 8 + (6 + 11) + lo1 ≤ 464; omega⟩ hz d_Lw_law_278 (Nat.le_of_ble_eq_true rfl) (fun r n2 M2 hp => ?_)
  obtain ⟨rfl, hq1, hA⟩ := hp
  subst hq1
  obtain ⟨u, fr2, lo2, PB, hr3, hr4, h2b, hB⟩ := h2 M2 hA
  refine fm_cnt (z' := (z.1 + 1, z.2 + 6)) rfl (fm_st (st' := [.int k]) rfl ?_)
  refine fm_istore (lv' := [(5, .int k), (4, .int (nI i)), (3, .ref 629), (2, .ref 586), (1, .ref 8), (0, .ref 0)]) hc d_Lw_law_281 (by decide) rfl ?_
  refine fm_aload_n hc d_Lw_law_283 rfl rfl ?_
  refine fm_aload_n hc d_Lw_law_284 rfl rfl ?_
  refine fm_iload hc d_Lw_law_285 rfl ?_
  refine fm_iconst (v := nI 1) hc d_Lw_law_287 rfl ?_
  refine fm_iadd hc d_Lw_law_288 ?_
  refine fm_top (congrArg Value.int (nI_add i 1)) ?_
  refine fm_sald (o := 0) (j := i + 1) (len := len) hc d_Lw_law_289 (by decide) hX hxl hxb (by omega) hlen ?_
  refine fm_aload_n hc d_Lw_law_290 rfl rfl ?_
  refine fm_iload hc d_Lw_law_291 rfl ?_
  refine fm_iconst (v := nI 2) hc d_Lw_law_293 rfl ?_
  refine fm_iadd hc d_Lw_law_294 ?_
  refine fm_top (congrArg Value.int (nI_add i 2)) ?_
  refine fm_sald (o := 0) (j := i + 2) (len := len) hc d_Lw_law_295 (by decide) hX hxl hxb (by omega) hlen ?_
  refine fm_aload_n hc d_Lw_law_296 rfl rfl ?_
  refine fm_iload hc d_Lw_law_297 rfl ?_
  refine fm_iconst (v := nI 3) hc d_Lw_law_299 rfl ?_
  refine fm_iadd hc d_Lw_law_300 ?_
  refine fm_top (congrArg Value.int (nI_add i 3)) ?_
  refine fm_sald (o := 0) (j := i + 3) (len := len) hc d_Lw_law_301 (by decide) hX hxl hxb (by omega) hlen ?_
  refine fm_callV (av := [.int (f (i + 1)), .int (f (i + 2)), .int (f (i + 3))]) (rest := []) (ob := 586) (ci := 11) (r0 := ("AgentNetModel", F_Mo, 51)) (y := y_Mo_launch) (bytes := b_Mo_launch) hc fm_T0_good (fm_EX_st b x) hex q_1058 q_13 q_1055 q_1056 q_1057 pd_Mo_launch (by decide) (by decide) (by decide) (by decide) rfl rfl (h2b) ⟨rfl, rfl, by show fr2 + 1 ≤ 12; omega, by show 8 + (4 + 11) + lo2 ≤ 464; omega⟩ hz d_Lw_law_302 (Nat.le_of_ble_eq_true rfl) (fun r n2 M3 hp => ?_)
  obtain ⟨rfl, hq1, hA2⟩ := hp
  subst hq1
  obtain ⟨hth, hout, hBB⟩ := hB _ hA2
  refine fm_cnt (z' := (z.1 + 1, z.2 + 6)) rfl (fm_st (st' := [.int u]) rfl ?_)
  refine fm_istore (lv' := [(6, .int u), (5, .int k), (4, .int (nI i)), (3, .ref 629), (2, .ref 586), (1, .ref 8), (0, .ref 0)]) hc d_Lw_law_305 (by decide) rfl ?_
  refine fm_aload_n hc d_Lw_law_307 rfl rfl ?_
  refine fm_callV (av := []) (rest := []) (ob := 586) (ci := 11) (r0 := ("AgentNetModel", F_Mo, 51)) (y := y_Mo_thrown) (bytes := b_Mo_thrown) hc fm_T0_good (fm_EX_st b x) hex q_1042 q_13 q_1039 q_1040 q_1041 pd_Mo_thrown (by decide) (by decide) (by decide) (by decide) rfl rfl (c_Mo_thrown (by decide)) ⟨rfl, rfl, Nat.le_of_ble_eq_true rfl, Nat.le_of_ble_eq_true rfl⟩ hz d_Lw_law_308 (Nat.le_of_ble_eq_true rfl) (fun r n2 M4 hp => ?_)
  obtain ⟨rfl, hq1, hq2⟩ := hp
  replace hq1 := hq1.symm
  replace hq2 := hq2.symm
  subst hq1 hq2
  refine fm_cnt (z' := (z.1 + 1, z.2 + 6)) rfl (fm_st (st' := [.int (M3.1 586 0)]) rfl ?_)
  refine fm_iload hc d_Lw_law_311 rfl ?_
  refine fm_icmp_eq (tgt := 318) hc d_Lw_law_313 rfl (fun _ => ?_) (fun g => absurd hth g)
  refine fm_iload hc d_Lw_law_318 rfl ?_
  refine fm_if_ne (tgt := 335) hc d_Lw_law_320 rfl (fun _ => ?_) (fun g => ?_)
  · refine fm_goto (tgt := 1091) hc d_Lw_law_335 rfl ?_
    refine fm_dropl (lv' := [(4, .int (nI i)), (3, .ref 629), (2, .ref 586), (1, .ref 8), (0, .ref 0)]) (by simp) ?_
    exact kk _ hBB
  · have hz0 : lg_cmp (M3.2.1 629 0) u.toInt64 = 0 := by rw [hout g]; exact lg_cmp_self _
    refine fm_aload_n hc d_Lw_law_323 rfl rfl ?_
    refine fm_iconst (v := nI 0) hc d_Lw_law_324 rfl ?_
    refine fm_lald (j := 0) (len := 1) hc 3 d_Lw_law_325 (by decide) (by decide) (by decide) rfl (by omega) (by decide) ?_
    refine fm_iload hc d_Lw_law_326 rfl ?_
    refine fm_i2l hc d_Lw_law_328 ?_
    refine fm_lcmp hc d_Lw_law_329 ?_
    refine fm_top (congrArg Value.int (show _ = (0 : Int32) from hz0)) ?_
    refine fm_if_eq (tgt := 335) hc d_Lw_law_330 rfl (fun _ => ?_) (fun g => absurd rfl g)
    refine fm_goto (tgt := 1091) hc d_Lw_law_335 rfl ?_
    refine fm_dropl (lv' := [(4, .int (nI i)), (3, .ref 629), (2, .ref 586), (1, .ref 8), (0, .ref 0)]) (by simp) ?_
    exact kk _ hBB
theorem lw_step (hc : fm_Cx p s m args meth c fm_cl b D 7 b_Lw_law "AgentNetLaw" fm_T0 (fm_tys dA)) (hex : fm_EX b x s) (hX : va_X (x 0) len f s s.heap) (hxl : x 0 < s.heap.size) (hxb : x 0 < b) (hlen : len < 2 ^ 31) (hi : i + 5 ≤ len) {k : Int32} {PA : fm_M → Prop} {fr1 lo1 : Nat} (hr1 : fr1 ≤ 11) (hr2 : lo1 ≤ 430) (hz : z.1 + 1 ≤ room_1.cells ∧ z.2 + 6 ≤ room_1.slots) (h1 : Met l y_Lw_step (Cond.codeWith y_Lw_step b_Lw_step 5 (some .int) [(0, 10, 13, 13), (0, 10, 17, 15)] :: fm_T0) ({ frames := fr1, cells := 1, slots := 6, locals := lo1 }) (fm_Pc fm_lay fm_nf fm_fk fm_cl b x D dA (fm_tys dA) (fm_EX b x) false [.ref 8, .int (f (i + 1)), .int (f (i + 2)), .ref 629] 630 M) (fm_Qc fm_lay fm_nf fm_fk fm_cl b x D dA (fun r n' M' => r = some (.int k) ∧ n' = 630 ∧ PA M')) 1 6 (fm_A b)) (h2 : ∀ M1, PA M1 → ∃ (u : Int32) (fr2 lo2 : Nat) (PB : fm_M → Prop), fr2 ≤ 10 ∧ lo2 ≤ 400 ∧ Met l y_Mo_step (Cond.code y_Mo_step b_Mo_step 8 (some .int) :: fm_T0) ({ frames := fr2, cells := 0, slots := 0, locals := lo2 }) (fm_Pc fm_lay fm_nf fm_fk fm_cl b x D dA (fm_tys dA) (fm_EX b x) false [.ref 586, .int (f (i + 1)), .int (f (i + 2))] 630 M1) (fm_Qc fm_lay fm_nf fm_fk fm_cl b x D dA (fun r n' M' => r = some (.int u) ∧ n' = 630 ∧ PB M')) 0 0 (fm_A b) ∧ ∀ M', PB M' → M'.1 586 0 = k ∧ (k = 0 → M'.2.1 629 0 = u.toInt64) ∧ B M') (kk : ∀ M', B M' → fm_G p l e room_1 s m args below meth c Q fm_lay fm_nf fm_fk fm_cl b x D dA 7 1091 [(4, .int (nI i)), (3, .ref 629), (2, .ref 586), (1, .ref 8), (0, .ref 0)] [] 630 M' (z.1 + 1, z.2 + 6)) : fm_G p l e room_1 s m args below meth c Q fm_lay fm_nf fm_fk fm_cl b x D dA 7 338 [(4, .int (nI i)), (3, .ref 629), (2, .ref 586), (1, .ref 8), (0, .ref 0)] [] 630 M z := by
  refine fm_aload_n hc d_Lw_law_338 rfl rfl ?_
  refine fm_aload_n hc d_Lw_law_339 rfl rfl ?_
  refine fm_iload hc d_Lw_law_340 rfl ?_
  refine fm_iconst (v := nI 1) hc d_Lw_law_342 rfl ?_
  refine fm_iadd hc d_Lw_law_343 ?_
  refine fm_top (congrArg Value.int (nI_add i 1)) ?_
  refine fm_sald (o := 0) (j := i + 1) (len := len) hc d_Lw_law_344 (by decide) hX hxl hxb (by omega) hlen ?_
  refine fm_aload_n hc d_Lw_law_345 rfl rfl ?_
  refine fm_iload hc d_Lw_law_346 rfl ?_
  refine fm_iconst (v := nI 2) hc d_Lw_law_348 rfl ?_
  refine fm_iadd hc d_Lw_law_349 ?_
  refine fm_top (congrArg Value.int (nI_add i 2)) ?_
  refine fm_sald (o := 0) (j := i + 2) (len := len) hc d_Lw_law_350 (by decide) hX hxl hxb (by omega) hlen ?_
  refine fm_aload_n hc d_Lw_law_351 rfl rfl ?_
  refine fm_callSW (av := [.ref 8, .int (f (i + 1)), .int (f (i + 2)), .ref 629]) (rest := []) (y := y_Lw_step) (bytes := b_Lw_step) hc fm_T0_good (fm_EX_st b x) hex q_682 q_0 q_680 q_681 pd_Lw_step (h1) ⟨rfl, rfl, by show fr1 + 1 ≤ 12; omega, by show 8 + (5 + 11) + lo1 ≤ 464; omega⟩ hz d_Lw_law_352 (Nat.le_of_ble_eq_true rfl) (fun r n2 M2 hp => ?_)
  obtain ⟨rfl, hq1, hA⟩ := hp
  subst hq1
  obtain ⟨u, fr2, lo2, PB, hr3, hr4, h2b, hB⟩ := h2 M2 hA
  refine fm_cnt (z' := (z.1 + 1, z.2 + 6)) rfl (fm_st (st' := [.int k]) rfl ?_)
  refine fm_istore (lv' := [(5, .int k), (4, .int (nI i)), (3, .ref 629), (2, .ref 586), (1, .ref 8), (0, .ref 0)]) hc d_Lw_law_355 (by decide) rfl ?_
  refine fm_aload_n hc d_Lw_law_357 rfl rfl ?_
  refine fm_aload_n hc d_Lw_law_358 rfl rfl ?_
  refine fm_iload hc d_Lw_law_359 rfl ?_
  refine fm_iconst (v := nI 1) hc d_Lw_law_361 rfl ?_
  refine fm_iadd hc d_Lw_law_362 ?_
  refine fm_top (congrArg Value.int (nI_add i 1)) ?_
  refine fm_sald (o := 0) (j := i + 1) (len := len) hc d_Lw_law_363 (by decide) hX hxl hxb (by omega) hlen ?_
  refine fm_aload_n hc d_Lw_law_364 rfl rfl ?_
  refine fm_iload hc d_Lw_law_365 rfl ?_
  refine fm_iconst (v := nI 2) hc d_Lw_law_367 rfl ?_
  refine fm_iadd hc d_Lw_law_368 ?_
  refine fm_top (congrArg Value.int (nI_add i 2)) ?_
  refine fm_sald (o := 0) (j := i + 2) (len := len) hc d_Lw_law_369 (by decide) hX hxl hxb (by omega) hlen ?_
  refine fm_callV (av := [.int (f (i + 1)), .int (f (i + 2))]) (rest := []) (ob := 586) (ci := 11) (r0 := ("AgentNetModel", F_Mo, 51)) (y := y_Mo_step) (bytes := b_Mo_step) hc fm_T0_good (fm_EX_st b x) hex q_1074 q_13 q_1071 q_1072 q_1073 pd_Mo_step (by decide) (by decide) (by decide) (by decide) rfl rfl (h2b) ⟨rfl, rfl, by show fr2 + 1 ≤ 12; omega, by show 8 + (8 + 11) + lo2 ≤ 464; omega⟩ hz d_Lw_law_370 (Nat.le_of_ble_eq_true rfl) (fun r n2 M3 hp => ?_)
  obtain ⟨rfl, hq1, hA2⟩ := hp
  subst hq1
  obtain ⟨hth, hout, hBB⟩ := hB _ hA2
  refine fm_cnt (z' := (z.1 + 1, z.2 + 6)) rfl (fm_st (st' := [.int u]) rfl ?_)
  refine fm_istore (lv' := [(6, .int u), (5, .int k), (4, .int (nI i)), (3, .ref 629), (2, .ref 586), (1, .ref 8), (0, .ref 0)]) hc d_Lw_law_373 (by decide) rfl ?_
  refine fm_aload_n hc d_Lw_law_375 rfl rfl ?_
  refine fm_callV (av := []) (rest := []) (ob := 586) (ci := 11) (r0 := ("AgentNetModel", F_Mo, 51)) (y := y_Mo_thrown) (bytes := b_Mo_thrown) hc fm_T0_good (fm_EX_st b x) hex q_1042 q_13 q_1039 q_1040 q_1041 pd_Mo_thrown (by decide) (by decide) (by decide) (by decide) rfl rfl (c_Mo_thrown (by decide)) ⟨rfl, rfl, Nat.le_of_ble_eq_true rfl, Nat.le_of_ble_eq_true rfl⟩ hz d_Lw_law_376 (Nat.le_of_ble_eq_true rfl) (fun r n2 M4 hp => ?_)
  obtain ⟨rfl, hq1, hq2⟩ := hp
  replace hq1 := hq1.symm
  replace hq2 := hq2.symm
  subst hq1 hq2
  refine fm_cnt (z' := (z.1 + 1, z.2 + 6)) rfl (fm_st (st' := [.int (M3.1 586 0)]) rfl ?_)
  refine fm_iload hc d_Lw_law_379 rfl ?_
  refine fm_icmp_eq (tgt := 386) hc d_Lw_law_381 rfl (fun _ => ?_) (fun g => absurd hth g)
  refine fm_iload hc d_Lw_law_386 rfl ?_
  refine fm_if_ne (tgt := 403) hc d_Lw_law_388 rfl (fun _ => ?_) (fun g => ?_)
  · refine fm_goto (tgt := 1091) hc d_Lw_law_403 rfl ?_
    refine fm_dropl (lv' := [(4, .int (nI i)), (3, .ref 629), (2, .ref 586), (1, .ref 8), (0, .ref 0)]) (by simp) ?_
    exact kk _ hBB
  · have hz0 : lg_cmp (M3.2.1 629 0) u.toInt64 = 0 := by rw [hout g]; exact lg_cmp_self _
    refine fm_aload_n hc d_Lw_law_391 rfl rfl ?_
    refine fm_iconst (v := nI 0) hc d_Lw_law_392 rfl ?_
    refine fm_lald (j := 0) (len := 1) hc 3 d_Lw_law_393 (by decide) (by decide) (by decide) rfl (by omega) (by decide) ?_
    refine fm_iload hc d_Lw_law_394 rfl ?_
    refine fm_i2l hc d_Lw_law_396 ?_
    refine fm_lcmp hc d_Lw_law_397 ?_
    refine fm_top (congrArg Value.int (show _ = (0 : Int32) from hz0)) ?_
    refine fm_if_eq (tgt := 403) hc d_Lw_law_398 rfl (fun _ => ?_) (fun g => absurd rfl g)
    refine fm_goto (tgt := 1091) hc d_Lw_law_403 rfl ?_
    refine fm_dropl (lv' := [(4, .int (nI i)), (3, .ref 629), (2, .ref 586), (1, .ref 8), (0, .ref 0)]) (by simp) ?_
    exact kk _ hBB
theorem lw_tick (hc : fm_Cx p s m args meth c fm_cl b D 7 b_Lw_law "AgentNetLaw" fm_T0 (fm_tys dA)) (hex : fm_EX b x s) (hX : va_X (x 0) len f s s.heap) (hxl : x 0 < s.heap.size) (hxb : x 0 < b) (hlen : len < 2 ^ 31) (hi : i + 5 ≤ len) {k : Int32} {PA : fm_M → Prop} {fr1 lo1 : Nat} (hr1 : fr1 ≤ 11) (hr2 : lo1 ≤ 430) (hz : z.1 + 1 ≤ room_1.cells ∧ z.2 + 6 ≤ room_1.slots) (h1 : Met l y_Lw_tick (Cond.codeWith y_Lw_tick b_Lw_tick 4 (some .int) [(0, 9, 12, 13), (0, 9, 15, 15)] :: fm_T0) ({ frames := fr1, cells := 1, slots := 6, locals := lo1 }) (fm_Pc fm_lay fm_nf fm_fk fm_cl b x D dA (fm_tys dA) (fm_EX b x) false [.ref 8, .int (f (i + 1)), .ref 629] 630 M) (fm_Qc fm_lay fm_nf fm_fk fm_cl b x D dA (fun r n' M' => r = some (.int k) ∧ n' = 630 ∧ PA M')) 1 6 (fm_A b)) (h2 : ∀ M1, PA M1 → ∃ (u : Int32) (fr2 lo2 : Nat) (PB : fm_M → Prop), fr2 ≤ 10 ∧ lo2 ≤ 400 ∧ Met l y_Mo_tick (Cond.code y_Mo_tick b_Mo_tick 4 (some .int) :: fm_T0) ({ frames := fr2, cells := 0, slots := 0, locals := lo2 }) (fm_Pc fm_lay fm_nf fm_fk fm_cl b x D dA (fm_tys dA) (fm_EX b x) false [.ref 586, .int (f (i + 1))] 630 M1) (fm_Qc fm_lay fm_nf fm_fk fm_cl b x D dA (fun r n' M' => r = some (.int u) ∧ n' = 630 ∧ PB M')) 0 0 (fm_A b) ∧ ∀ M', PB M' → M'.1 586 0 = k ∧ (k = 0 → M'.2.1 629 0 = u.toInt64) ∧ B M') (kk : ∀ M', B M' → fm_G p l e room_1 s m args below meth c Q fm_lay fm_nf fm_fk fm_cl b x D dA 7 1091 [(4, .int (nI i)), (3, .ref 629), (2, .ref 586), (1, .ref 8), (0, .ref 0)] [] 630 M' (z.1 + 1, z.2 + 6)) : fm_G p l e room_1 s m args below meth c Q fm_lay fm_nf fm_fk fm_cl b x D dA 7 406 [(4, .int (nI i)), (3, .ref 629), (2, .ref 586), (1, .ref 8), (0, .ref 0)] [] 630 M z := by
  refine fm_aload_n hc d_Lw_law_406 rfl rfl ?_
  refine fm_aload_n hc d_Lw_law_407 rfl rfl ?_
  refine fm_iload hc d_Lw_law_408 rfl ?_
  refine fm_iconst (v := nI 1) hc d_Lw_law_410 rfl ?_
  refine fm_iadd hc d_Lw_law_411 ?_
  refine fm_top (congrArg Value.int (nI_add i 1)) ?_
  refine fm_sald (o := 0) (j := i + 1) (len := len) hc d_Lw_law_412 (by decide) hX hxl hxb (by omega) hlen ?_
  refine fm_aload_n hc d_Lw_law_413 rfl rfl ?_
  refine fm_callSW (av := [.ref 8, .int (f (i + 1)), .ref 629]) (rest := []) (y := y_Lw_tick) (bytes := b_Lw_tick) hc fm_T0_good (fm_EX_st b x) hex q_705 q_0 q_703 q_704 pd_Lw_tick (h1) ⟨rfl, rfl, by show fr1 + 1 ≤ 12; omega, by show 8 + (4 + 11) + lo1 ≤ 464; omega⟩ hz d_Lw_law_414 (Nat.le_of_ble_eq_true rfl) (fun r n2 M2 hp => ?_)
  obtain ⟨rfl, hq1, hA⟩ := hp
  subst hq1
  obtain ⟨u, fr2, lo2, PB, hr3, hr4, h2b, hB⟩ := h2 M2 hA
  refine fm_cnt (z' := (z.1 + 1, z.2 + 6)) rfl (fm_st (st' := [.int k]) rfl ?_)
  refine fm_istore (lv' := [(5, .int k), (4, .int (nI i)), (3, .ref 629), (2, .ref 586), (1, .ref 8), (0, .ref 0)]) hc d_Lw_law_417 (by decide) rfl ?_
  refine fm_aload_n hc d_Lw_law_419 rfl rfl ?_
  refine fm_aload_n hc d_Lw_law_420 rfl rfl ?_
  refine fm_iload hc d_Lw_law_421 rfl ?_
  refine fm_iconst (v := nI 1) hc d_Lw_law_423 rfl ?_
  refine fm_iadd hc d_Lw_law_424 ?_
  refine fm_top (congrArg Value.int (nI_add i 1)) ?_
  refine fm_sald (o := 0) (j := i + 1) (len := len) hc d_Lw_law_425 (by decide) hX hxl hxb (by omega) hlen ?_
  refine fm_callV (av := [.int (f (i + 1))]) (rest := []) (ob := 586) (ci := 11) (r0 := ("AgentNetModel", F_Mo, 51)) (y := y_Mo_tick) (bytes := b_Mo_tick) hc fm_T0_good (fm_EX_st b x) hex q_1174 q_13 q_1171 q_1172 q_1173 pd_Mo_tick (by decide) (by decide) (by decide) (by decide) rfl rfl (h2b) ⟨rfl, rfl, by show fr2 + 1 ≤ 12; omega, by show 8 + (4 + 11) + lo2 ≤ 464; omega⟩ hz d_Lw_law_426 (Nat.le_of_ble_eq_true rfl) (fun r n2 M3 hp => ?_)
  obtain ⟨rfl, hq1, hA2⟩ := hp
  subst hq1
  obtain ⟨hth, hout, hBB⟩ := hB _ hA2
  refine fm_cnt (z' := (z.1 + 1, z.2 + 6)) rfl (fm_st (st' := [.int u]) rfl ?_)
  refine fm_istore (lv' := [(6, .int u), (5, .int k), (4, .int (nI i)), (3, .ref 629), (2, .ref 586), (1, .ref 8), (0, .ref 0)]) hc d_Lw_law_429 (by decide) rfl ?_
  refine fm_aload_n hc d_Lw_law_431 rfl rfl ?_
  refine fm_callV (av := []) (rest := []) (ob := 586) (ci := 11) (r0 := ("AgentNetModel", F_Mo, 51)) (y := y_Mo_thrown) (bytes := b_Mo_thrown) hc fm_T0_good (fm_EX_st b x) hex q_1042 q_13 q_1039 q_1040 q_1041 pd_Mo_thrown (by decide) (by decide) (by decide) (by decide) rfl rfl (c_Mo_thrown (by decide)) ⟨rfl, rfl, Nat.le_of_ble_eq_true rfl, Nat.le_of_ble_eq_true rfl⟩ hz d_Lw_law_432 (Nat.le_of_ble_eq_true rfl) (fun r n2 M4 hp => ?_)
  obtain ⟨rfl, hq1, hq2⟩ := hp
  replace hq1 := hq1.symm
  replace hq2 := hq2.symm
  subst hq1 hq2
  refine fm_cnt (z' := (z.1 + 1, z.2 + 6)) rfl (fm_st (st' := [.int (M3.1 586 0)]) rfl ?_)
  refine fm_iload hc d_Lw_law_435 rfl ?_
  refine fm_icmp_eq (tgt := 442) hc d_Lw_law_437 rfl (fun _ => ?_) (fun g => absurd hth g)
  refine fm_iload hc d_Lw_law_442 rfl ?_
  refine fm_if_ne (tgt := 459) hc d_Lw_law_444 rfl (fun _ => ?_) (fun g => ?_)
  · refine fm_goto (tgt := 1091) hc d_Lw_law_459 rfl ?_
    refine fm_dropl (lv' := [(4, .int (nI i)), (3, .ref 629), (2, .ref 586), (1, .ref 8), (0, .ref 0)]) (by simp) ?_
    exact kk _ hBB
  · have hz0 : lg_cmp (M3.2.1 629 0) u.toInt64 = 0 := by rw [hout g]; exact lg_cmp_self _
    refine fm_aload_n hc d_Lw_law_447 rfl rfl ?_
    refine fm_iconst (v := nI 0) hc d_Lw_law_448 rfl ?_
    refine fm_lald (j := 0) (len := 1) hc 3 d_Lw_law_449 (by decide) (by decide) (by decide) rfl (by omega) (by decide) ?_
    refine fm_iload hc d_Lw_law_450 rfl ?_
    refine fm_i2l hc d_Lw_law_452 ?_
    refine fm_lcmp hc d_Lw_law_453 ?_
    refine fm_top (congrArg Value.int (show _ = (0 : Int32) from hz0)) ?_
    refine fm_if_eq (tgt := 459) hc d_Lw_law_454 rfl (fun _ => ?_) (fun g => absurd rfl g)
    refine fm_goto (tgt := 1091) hc d_Lw_law_459 rfl ?_
    refine fm_dropl (lv' := [(4, .int (nI i)), (3, .ref 629), (2, .ref 586), (1, .ref 8), (0, .ref 0)]) (by simp) ?_
    exact kk _ hBB
theorem lw_checkpoint (hc : fm_Cx p s m args meth c fm_cl b D 7 b_Lw_law "AgentNetLaw" fm_T0 (fm_tys dA)) (hex : fm_EX b x s) (hX : va_X (x 0) len f s s.heap) (hxl : x 0 < s.heap.size) (hxb : x 0 < b) (hlen : len < 2 ^ 31) (hi : i + 5 ≤ len) {k : Int32} {PA : fm_M → Prop} {fr1 lo1 : Nat} (hr1 : fr1 ≤ 11) (hr2 : lo1 ≤ 430) (hz : z.1 + 1 ≤ room_1.cells ∧ z.2 + 6 ≤ room_1.slots) (h1 : Met l y_Lw_checkpoint (Cond.codeWith y_Lw_checkpoint b_Lw_checkpoint 4 (some .int) [(0, 9, 12, 13), (0, 9, 15, 15)] :: fm_T0) ({ frames := fr1, cells := 1, slots := 6, locals := lo1 }) (fm_Pc fm_lay fm_nf fm_fk fm_cl b x D dA (fm_tys dA) (fm_EX b x) false [.ref 8, .int (f (i + 1)), .ref 629] 630 M) (fm_Qc fm_lay fm_nf fm_fk fm_cl b x D dA (fun r n' M' => r = some (.int k) ∧ n' = 630 ∧ PA M')) 1 6 (fm_A b)) (h2 : ∀ M1, PA M1 → ∃ (u : Int32) (fr2 lo2 : Nat) (PB : fm_M → Prop), fr2 ≤ 10 ∧ lo2 ≤ 400 ∧ Met l y_Mo_checkpoint (Cond.code y_Mo_checkpoint b_Mo_checkpoint 3 (some .int) :: fm_T0) ({ frames := fr2, cells := 0, slots := 0, locals := lo2 }) (fm_Pc fm_lay fm_nf fm_fk fm_cl b x D dA (fm_tys dA) (fm_EX b x) false [.ref 586, .int (f (i + 1))] 630 M1) (fm_Qc fm_lay fm_nf fm_fk fm_cl b x D dA (fun r n' M' => r = some (.int u) ∧ n' = 630 ∧ PB M')) 0 0 (fm_A b) ∧ ∀ M', PB M' → M'.1 586 0 = k ∧ (k = 0 → M'.2.1 629 0 = u.toInt64) ∧ B M') (kk : ∀ M', B M' → fm_G p l e room_1 s m args below meth c Q fm_lay fm_nf fm_fk fm_cl b x D dA 7 1091 [(4, .int (nI i)), (3, .ref 629), (2, .ref 586), (1, .ref 8), (0, .ref 0)] [] 630 M' (z.1 + 1, z.2 + 6)) : fm_G p l e room_1 s m args below meth c Q fm_lay fm_nf fm_fk fm_cl b x D dA 7 462 [(4, .int (nI i)), (3, .ref 629), (2, .ref 586), (1, .ref 8), (0, .ref 0)] [] 630 M z := by
  refine fm_aload_n hc d_Lw_law_462 rfl rfl ?_
  refine fm_aload_n hc d_Lw_law_463 rfl rfl ?_
  refine fm_iload hc d_Lw_law_464 rfl ?_
  refine fm_iconst (v := nI 1) hc d_Lw_law_466 rfl ?_
  refine fm_iadd hc d_Lw_law_467 ?_
  refine fm_top (congrArg Value.int (nI_add i 1)) ?_
  refine fm_sald (o := 0) (j := i + 1) (len := len) hc d_Lw_law_468 (by decide) hX hxl hxb (by omega) hlen ?_
  refine fm_aload_n hc d_Lw_law_469 rfl rfl ?_
  refine fm_callSW (av := [.ref 8, .int (f (i + 1)), .ref 629]) (rest := []) (y := y_Lw_checkpoint) (bytes := b_Lw_checkpoint) hc fm_T0_good (fm_EX_st b x) hex q_750 q_0 q_748 q_749 pd_Lw_checkpoint (h1) ⟨rfl, rfl, by show fr1 + 1 ≤ 12; omega, by show 8 + (4 + 11) + lo1 ≤ 464; omega⟩ hz d_Lw_law_470 (Nat.le_of_ble_eq_true rfl) (fun r n2 M2 hp => ?_)
  obtain ⟨rfl, hq1, hA⟩ := hp
  subst hq1
  obtain ⟨u, fr2, lo2, PB, hr3, hr4, h2b, hB⟩ := h2 M2 hA
  refine fm_cnt (z' := (z.1 + 1, z.2 + 6)) rfl (fm_st (st' := [.int k]) rfl ?_)
  refine fm_istore (lv' := [(5, .int k), (4, .int (nI i)), (3, .ref 629), (2, .ref 586), (1, .ref 8), (0, .ref 0)]) hc d_Lw_law_473 (by decide) rfl ?_
  refine fm_aload_n hc d_Lw_law_475 rfl rfl ?_
  refine fm_aload_n hc d_Lw_law_476 rfl rfl ?_
  refine fm_iload hc d_Lw_law_477 rfl ?_
  refine fm_iconst (v := nI 1) hc d_Lw_law_479 rfl ?_
  refine fm_iadd hc d_Lw_law_480 ?_
  refine fm_top (congrArg Value.int (nI_add i 1)) ?_
  refine fm_sald (o := 0) (j := i + 1) (len := len) hc d_Lw_law_481 (by decide) hX hxl hxb (by omega) hlen ?_
  refine fm_callV (av := [.int (f (i + 1))]) (rest := []) (ob := 586) (ci := 11) (r0 := ("AgentNetModel", F_Mo, 51)) (y := y_Mo_checkpoint) (bytes := b_Mo_checkpoint) hc fm_T0_good (fm_EX_st b x) hex q_1194 q_13 q_1191 q_1192 q_1193 pd_Mo_checkpoint (by decide) (by decide) (by decide) (by decide) rfl rfl (h2b) ⟨rfl, rfl, by show fr2 + 1 ≤ 12; omega, by show 8 + (3 + 11) + lo2 ≤ 464; omega⟩ hz d_Lw_law_482 (Nat.le_of_ble_eq_true rfl) (fun r n2 M3 hp => ?_)
  obtain ⟨rfl, hq1, hA2⟩ := hp
  subst hq1
  obtain ⟨hth, hout, hBB⟩ := hB _ hA2
  refine fm_cnt (z' := (z.1 + 1, z.2 + 6)) rfl (fm_st (st' := [.int u]) rfl ?_)
  refine fm_istore (lv' := [(6, .int u), (5, .int k), (4, .int (nI i)), (3, .ref 629), (2, .ref 586), (1, .ref 8), (0, .ref 0)]) hc d_Lw_law_485 (by decide) rfl ?_
  refine fm_aload_n hc d_Lw_law_487 rfl rfl ?_
  refine fm_callV (av := []) (rest := []) (ob := 586) (ci := 11) (r0 := ("AgentNetModel", F_Mo, 51)) (y := y_Mo_thrown) (bytes := b_Mo_thrown) hc fm_T0_good (fm_EX_st b x) hex q_1042 q_13 q_1039 q_1040 q_1041 pd_Mo_thrown (by decide) (by decide) (by decide) (by decide) rfl rfl (c_Mo_thrown (by decide)) ⟨rfl, rfl, Nat.le_of_ble_eq_true rfl, Nat.le_of_ble_eq_true rfl⟩ hz d_Lw_law_488 (Nat.le_of_ble_eq_true rfl) (fun r n2 M4 hp => ?_)
  obtain ⟨rfl, hq1, hq2⟩ := hp
  replace hq1 := hq1.symm
  replace hq2 := hq2.symm
  subst hq1 hq2
  refine fm_cnt (z' := (z.1 + 1, z.2 + 6)) rfl (fm_st (st' := [.int (M3.1 586 0)]) rfl ?_)
  refine fm_iload hc d_Lw_law_491 rfl ?_
  refine fm_icmp_eq (tgt := 498) hc d_Lw_law_493 rfl (fun _ => ?_) (fun g => absurd hth g)
  refine fm_iload hc d_Lw_law_498 rfl ?_
  refine fm_if_ne (tgt := 515) hc d_Lw_law_500 rfl (fun _ => ?_) (fun g => ?_)
  · refine fm_goto (tgt := 1091) hc d_Lw_law_515 rfl ?_
    refine fm_dropl (lv' := [(4, .int (nI i)), (3, .ref 629), (2, .ref 586), (1, .ref 8), (0, .ref 0)]) (by simp) ?_
    exact kk _ hBB
  · have hz0 : lg_cmp (M3.2.1 629 0) u.toInt64 = 0 := by rw [hout g]; exact lg_cmp_self _
    refine fm_aload_n hc d_Lw_law_503 rfl rfl ?_
    refine fm_iconst (v := nI 0) hc d_Lw_law_504 rfl ?_
    refine fm_lald (j := 0) (len := 1) hc 3 d_Lw_law_505 (by decide) (by decide) (by decide) rfl (by omega) (by decide) ?_
    refine fm_iload hc d_Lw_law_506 rfl ?_
    refine fm_i2l hc d_Lw_law_508 ?_
    refine fm_lcmp hc d_Lw_law_509 ?_
    refine fm_top (congrArg Value.int (show _ = (0 : Int32) from hz0)) ?_
    refine fm_if_eq (tgt := 515) hc d_Lw_law_510 rfl (fun _ => ?_) (fun g => absurd rfl g)
    refine fm_goto (tgt := 1091) hc d_Lw_law_515 rfl ?_
    refine fm_dropl (lv' := [(4, .int (nI i)), (3, .ref 629), (2, .ref 586), (1, .ref 8), (0, .ref 0)]) (by simp) ?_
    exact kk _ hBB
theorem lw_write (hc : fm_Cx p s m args meth c fm_cl b D 7 b_Lw_law "AgentNetLaw" fm_T0 (fm_tys dA)) (hex : fm_EX b x s) (hX : va_X (x 0) len f s s.heap) (hxl : x 0 < s.heap.size) (hxb : x 0 < b) (hlen : len < 2 ^ 31) (hi : i + 5 ≤ len) {k : Int32} {PA : fm_M → Prop} {fr1 lo1 : Nat} (hr1 : fr1 ≤ 11) (hr2 : lo1 ≤ 430) (hz : z.1 + 1 ≤ room_1.cells ∧ z.2 + 6 ≤ room_1.slots) (h1 : Met l y_Lw_write (Cond.codeWith y_Lw_write b_Lw_write 5 (some .int) [(0, 10, 13, 13), (0, 10, 17, 15)] :: fm_T0) ({ frames := fr1, cells := 1, slots := 6, locals := lo1 }) (fm_Pc fm_lay fm_nf fm_fk fm_cl b x D dA (fm_tys dA) (fm_EX b x) false [.ref 8, .int (f (i + 1)), .int (f (i + 2)), .ref 629] 630 M) (fm_Qc fm_lay fm_nf fm_fk fm_cl b x D dA (fun r n' M' => r = some (.int k) ∧ n' = 630 ∧ PA M')) 1 6 (fm_A b)) (h2 : ∀ M1, PA M1 → ∃ (u : Int32) (fr2 lo2 : Nat) (PB : fm_M → Prop), fr2 ≤ 10 ∧ lo2 ≤ 400 ∧ Met l y_Mo_write (Cond.code y_Mo_write b_Mo_write 3 (some .int) :: fm_T0) ({ frames := fr2, cells := 0, slots := 0, locals := lo2 }) (fm_Pc fm_lay fm_nf fm_fk fm_cl b x D dA (fm_tys dA) (fm_EX b x) false [.ref 586, .int (f (i + 1)), .int (f (i + 2))] 630 M1) (fm_Qc fm_lay fm_nf fm_fk fm_cl b x D dA (fun r n' M' => r = some (.int u) ∧ n' = 630 ∧ PB M')) 0 0 (fm_A b) ∧ ∀ M', PB M' → M'.1 586 0 = k ∧ (k = 0 → M'.2.1 629 0 = u.toInt64) ∧ B M') (kk : ∀ M', B M' → fm_G p l e room_1 s m args below meth c Q fm_lay fm_nf fm_fk fm_cl b x D dA 7 1091 [(4, .int (nI i)), (3, .ref 629), (2, .ref 586), (1, .ref 8), (0, .ref 0)] [] 630 M' (z.1 + 1, z.2 + 6)) : fm_G p l e room_1 s m args below meth c Q fm_lay fm_nf fm_fk fm_cl b x D dA 7 518 [(4, .int (nI i)), (3, .ref 629), (2, .ref 586), (1, .ref 8), (0, .ref 0)] [] 630 M z := by
  refine fm_aload_n hc d_Lw_law_518 rfl rfl ?_
  refine fm_aload_n hc d_Lw_law_519 rfl rfl ?_
  refine fm_iload hc d_Lw_law_520 rfl ?_
  refine fm_iconst (v := nI 1) hc d_Lw_law_522 rfl ?_
  refine fm_iadd hc d_Lw_law_523 ?_
  refine fm_top (congrArg Value.int (nI_add i 1)) ?_
  refine fm_sald (o := 0) (j := i + 1) (len := len) hc d_Lw_law_524 (by decide) hX hxl hxb (by omega) hlen ?_
  refine fm_aload_n hc d_Lw_law_525 rfl rfl ?_
  refine fm_iload hc d_Lw_law_526 rfl ?_
  refine fm_iconst (v := nI 2) hc d_Lw_law_528 rfl ?_
  refine fm_iadd hc d_Lw_law_529 ?_
  refine fm_top (congrArg Value.int (nI_add i 2)) ?_
  refine fm_sald (o := 0) (j := i + 2) (len := len) hc d_Lw_law_530 (by decide) hX hxl hxb (by omega) hlen ?_
  refine fm_aload_n hc d_Lw_law_531 rfl rfl ?_
  refine fm_callSW (av := [.ref 8, .int (f (i + 1)), .int (f (i + 2)), .ref 629]) (rest := []) (y := y_Lw_write) (bytes := b_Lw_write) hc fm_T0_good (fm_EX_st b x) hex q_776 q_0 q_774 q_775 pd_Lw_write (h1) ⟨rfl, rfl, by show fr1 + 1 ≤ 12; omega, by show 8 + (5 + 11) + lo1 ≤ 464; omega⟩ hz d_Lw_law_532 (Nat.le_of_ble_eq_true rfl) (fun r n2 M2 hp => ?_)
  obtain ⟨rfl, hq1, hA⟩ := hp
  subst hq1
  obtain ⟨u, fr2, lo2, PB, hr3, hr4, h2b, hB⟩ := h2 M2 hA
  refine fm_cnt (z' := (z.1 + 1, z.2 + 6)) rfl (fm_st (st' := [.int k]) rfl ?_)
  refine fm_istore (lv' := [(5, .int k), (4, .int (nI i)), (3, .ref 629), (2, .ref 586), (1, .ref 8), (0, .ref 0)]) hc d_Lw_law_535 (by decide) rfl ?_
  refine fm_aload_n hc d_Lw_law_537 rfl rfl ?_
  refine fm_aload_n hc d_Lw_law_538 rfl rfl ?_
  refine fm_iload hc d_Lw_law_539 rfl ?_
  refine fm_iconst (v := nI 1) hc d_Lw_law_541 rfl ?_
  refine fm_iadd hc d_Lw_law_542 ?_
  refine fm_top (congrArg Value.int (nI_add i 1)) ?_
  refine fm_sald (o := 0) (j := i + 1) (len := len) hc d_Lw_law_543 (by decide) hX hxl hxb (by omega) hlen ?_
  refine fm_aload_n hc d_Lw_law_544 rfl rfl ?_
  refine fm_iload hc d_Lw_law_545 rfl ?_
  refine fm_iconst (v := nI 2) hc d_Lw_law_547 rfl ?_
  refine fm_iadd hc d_Lw_law_548 ?_
  refine fm_top (congrArg Value.int (nI_add i 2)) ?_
  refine fm_sald (o := 0) (j := i + 2) (len := len) hc d_Lw_law_549 (by decide) hX hxl hxb (by omega) hlen ?_
  refine fm_callV (av := [.int (f (i + 1)), .int (f (i + 2))]) (rest := []) (ob := 586) (ci := 11) (r0 := ("AgentNetModel", F_Mo, 51)) (y := y_Mo_write) (bytes := b_Mo_write) hc fm_T0_good (fm_EX_st b x) hex q_1202 q_13 q_1199 q_1200 q_1201 pd_Mo_write (by decide) (by decide) (by decide) (by decide) rfl rfl (h2b) ⟨rfl, rfl, by show fr2 + 1 ≤ 12; omega, by show 8 + (3 + 11) + lo2 ≤ 464; omega⟩ hz d_Lw_law_550 (Nat.le_of_ble_eq_true rfl) (fun r n2 M3 hp => ?_)
  obtain ⟨rfl, hq1, hA2⟩ := hp
  subst hq1
  obtain ⟨hth, hout, hBB⟩ := hB _ hA2
  refine fm_cnt (z' := (z.1 + 1, z.2 + 6)) rfl (fm_st (st' := [.int u]) rfl ?_)
  refine fm_istore (lv' := [(6, .int u), (5, .int k), (4, .int (nI i)), (3, .ref 629), (2, .ref 586), (1, .ref 8), (0, .ref 0)]) hc d_Lw_law_553 (by decide) rfl ?_
  refine fm_aload_n hc d_Lw_law_555 rfl rfl ?_
  refine fm_callV (av := []) (rest := []) (ob := 586) (ci := 11) (r0 := ("AgentNetModel", F_Mo, 51)) (y := y_Mo_thrown) (bytes := b_Mo_thrown) hc fm_T0_good (fm_EX_st b x) hex q_1042 q_13 q_1039 q_1040 q_1041 pd_Mo_thrown (by decide) (by decide) (by decide) (by decide) rfl rfl (c_Mo_thrown (by decide)) ⟨rfl, rfl, Nat.le_of_ble_eq_true rfl, Nat.le_of_ble_eq_true rfl⟩ hz d_Lw_law_556 (Nat.le_of_ble_eq_true rfl) (fun r n2 M4 hp => ?_)
  obtain ⟨rfl, hq1, hq2⟩ := hp
  replace hq1 := hq1.symm
  replace hq2 := hq2.symm
  subst hq1 hq2
  refine fm_cnt (z' := (z.1 + 1, z.2 + 6)) rfl (fm_st (st' := [.int (M3.1 586 0)]) rfl ?_)
  refine fm_iload hc d_Lw_law_559 rfl ?_
  refine fm_icmp_eq (tgt := 566) hc d_Lw_law_561 rfl (fun _ => ?_) (fun g => absurd hth g)
  refine fm_iload hc d_Lw_law_566 rfl ?_
  refine fm_if_ne (tgt := 583) hc d_Lw_law_568 rfl (fun _ => ?_) (fun g => ?_)
  · refine fm_goto (tgt := 1091) hc d_Lw_law_583 rfl ?_
    refine fm_dropl (lv' := [(4, .int (nI i)), (3, .ref 629), (2, .ref 586), (1, .ref 8), (0, .ref 0)]) (by simp) ?_
    exact kk _ hBB
  · have hz0 : lg_cmp (M3.2.1 629 0) u.toInt64 = 0 := by rw [hout g]; exact lg_cmp_self _
    refine fm_aload_n hc d_Lw_law_571 rfl rfl ?_
    refine fm_iconst (v := nI 0) hc d_Lw_law_572 rfl ?_
    refine fm_lald (j := 0) (len := 1) hc 3 d_Lw_law_573 (by decide) (by decide) (by decide) rfl (by omega) (by decide) ?_
    refine fm_iload hc d_Lw_law_574 rfl ?_
    refine fm_i2l hc d_Lw_law_576 ?_
    refine fm_lcmp hc d_Lw_law_577 ?_
    refine fm_top (congrArg Value.int (show _ = (0 : Int32) from hz0)) ?_
    refine fm_if_eq (tgt := 583) hc d_Lw_law_578 rfl (fun _ => ?_) (fun g => absurd rfl g)
    refine fm_goto (tgt := 1091) hc d_Lw_law_583 rfl ?_
    refine fm_dropl (lv' := [(4, .int (nI i)), (3, .ref 629), (2, .ref 586), (1, .ref 8), (0, .ref 0)]) (by simp) ?_
    exact kk _ hBB
theorem lw_crash (hc : fm_Cx p s m args meth c fm_cl b D 7 b_Lw_law "AgentNetLaw" fm_T0 (fm_tys dA)) (hex : fm_EX b x s) (hX : va_X (x 0) len f s s.heap) (hxl : x 0 < s.heap.size) (hxb : x 0 < b) (hlen : len < 2 ^ 31) (hi : i + 5 ≤ len) {k : Int32} {PA : fm_M → Prop} {fr1 lo1 : Nat} (hr1 : fr1 ≤ 11) (hr2 : lo1 ≤ 430) (hz : z.1 + 1 ≤ room_1.cells ∧ z.2 + 6 ≤ room_1.slots) (h1 : Met l y_Lw_crash (Cond.codeWith y_Lw_crash b_Lw_crash 4 (some .int) [(0, 16, 19, 13)] :: fm_T0) ({ frames := fr1, cells := 1, slots := 6, locals := lo1 }) (fm_Pc fm_lay fm_nf fm_fk fm_cl b x D dA (fm_tys dA) (fm_EX b x) false [.ref 8, .int (f (i + 1)), .ref 629] 630 M) (fm_Qc fm_lay fm_nf fm_fk fm_cl b x D dA (fun r n' M' => r = some (.int k) ∧ n' = 630 ∧ PA M')) 1 6 (fm_A b)) (h2 : ∀ M1, PA M1 → ∃ (u : Int32) (fr2 lo2 : Nat) (PB : fm_M → Prop), fr2 ≤ 10 ∧ lo2 ≤ 400 ∧ Met l y_Mo_crash (Cond.code y_Mo_crash b_Mo_crash 2 (some .boolean) :: fm_T0) ({ frames := fr2, cells := 0, slots := 0, locals := lo2 }) (fm_Pc fm_lay fm_nf fm_fk fm_cl b x D dA (fm_tys dA) (fm_EX b x) false [.ref 586, .int (f (i + 1))] 630 M1) (fm_Qc fm_lay fm_nf fm_fk fm_cl b x D dA (fun r n' M' => r = some (.int u) ∧ n' = 630 ∧ PB M')) 0 0 (fm_A b) ∧ ∀ M', PB M' → M'.1 586 0 = k ∧ (k = 0 → M'.2.1 629 0 = (if u = 0 then 0 else 1)) ∧ B M') (kk : ∀ M', B M' → fm_G p l e room_1 s m args below meth c Q fm_lay fm_nf fm_fk fm_cl b x D dA 7 1091 [(4, .int (nI i)), (3, .ref 629), (2, .ref 586), (1, .ref 8), (0, .ref 0)] [] 630 M' (z.1 + 1, z.2 + 6)) : fm_G p l e room_1 s m args below meth c Q fm_lay fm_nf fm_fk fm_cl b x D dA 7 586 [(4, .int (nI i)), (3, .ref 629), (2, .ref 586), (1, .ref 8), (0, .ref 0)] [] 630 M z := by
  refine fm_aload_n hc d_Lw_law_586 rfl rfl ?_
  refine fm_aload_n hc d_Lw_law_587 rfl rfl ?_
  refine fm_iload hc d_Lw_law_588 rfl ?_
  refine fm_iconst (v := nI 1) hc d_Lw_law_590 rfl ?_
  refine fm_iadd hc d_Lw_law_591 ?_
  refine fm_top (congrArg Value.int (nI_add i 1)) ?_
  refine fm_sald (o := 0) (j := i + 1) (len := len) hc d_Lw_law_592 (by decide) hX hxl hxb (by omega) hlen ?_
  refine fm_aload_n hc d_Lw_law_593 rfl rfl ?_
  refine fm_callSW (av := [.ref 8, .int (f (i + 1)), .ref 629]) (rest := []) (y := y_Lw_crash) (bytes := b_Lw_crash) hc fm_T0_good (fm_EX_st b x) hex q_799 q_0 q_797 q_798 pd_Lw_crash (h1) ⟨rfl, rfl, by show fr1 + 1 ≤ 12; omega, by show 8 + (4 + 11) + lo1 ≤ 464; omega⟩ hz d_Lw_law_594 (Nat.le_of_ble_eq_true rfl) (fun r n2 M2 hp => ?_)
  obtain ⟨rfl, hq1, hA⟩ := hp
  subst hq1
  obtain ⟨u, fr2, lo2, PB, hr3, hr4, h2b, hB⟩ := h2 M2 hA
  refine fm_cnt (z' := (z.1 + 1, z.2 + 6)) rfl (fm_st (st' := [.int k]) rfl ?_)
  refine fm_istore (lv' := [(5, .int k), (4, .int (nI i)), (3, .ref 629), (2, .ref 586), (1, .ref 8), (0, .ref 0)]) hc d_Lw_law_597 (by decide) rfl ?_
  refine fm_aload_n hc d_Lw_law_599 rfl rfl ?_
  refine fm_aload_n hc d_Lw_law_600 rfl rfl ?_
  refine fm_iload hc d_Lw_law_601 rfl ?_
  refine fm_iconst (v := nI 1) hc d_Lw_law_603 rfl ?_
  refine fm_iadd hc d_Lw_law_604 ?_
  refine fm_top (congrArg Value.int (nI_add i 1)) ?_
  refine fm_sald (o := 0) (j := i + 1) (len := len) hc d_Lw_law_605 (by decide) hX hxl hxb (by omega) hlen ?_
  refine fm_callV (av := [.int (f (i + 1))]) (rest := []) (ob := 586) (ci := 11) (r0 := ("AgentNetModel", F_Mo, 51)) (y := y_Mo_crash) (bytes := b_Mo_crash) hc fm_T0_good (fm_EX_st b x) hex q_1210 q_13 q_1207 q_1208 q_1209 pd_Mo_crash (by decide) (by decide) (by decide) (by decide) rfl rfl (h2b) ⟨rfl, rfl, by show fr2 + 1 ≤ 12; omega, by show 8 + (2 + 11) + lo2 ≤ 464; omega⟩ hz d_Lw_law_606 (Nat.le_of_ble_eq_true rfl) (fun r n2 M3 hp => ?_)
  obtain ⟨rfl, hq1, hA2⟩ := hp
  subst hq1
  obtain ⟨hth, hout, hBB⟩ := hB _ hA2
  refine fm_cnt (z' := (z.1 + 1, z.2 + 6)) rfl (fm_st (st' := [.int u]) rfl ?_)
  refine fm_istore (lv' := [(6, .int u), (5, .int k), (4, .int (nI i)), (3, .ref 629), (2, .ref 586), (1, .ref 8), (0, .ref 0)]) hc d_Lw_law_609 (by decide) rfl ?_
  refine fm_aload_n hc d_Lw_law_611 rfl rfl ?_
  refine fm_callV (av := []) (rest := []) (ob := 586) (ci := 11) (r0 := ("AgentNetModel", F_Mo, 51)) (y := y_Mo_thrown) (bytes := b_Mo_thrown) hc fm_T0_good (fm_EX_st b x) hex q_1042 q_13 q_1039 q_1040 q_1041 pd_Mo_thrown (by decide) (by decide) (by decide) (by decide) rfl rfl (c_Mo_thrown (by decide)) ⟨rfl, rfl, Nat.le_of_ble_eq_true rfl, Nat.le_of_ble_eq_true rfl⟩ hz d_Lw_law_612 (Nat.le_of_ble_eq_true rfl) (fun r n2 M4 hp => ?_)
  obtain ⟨rfl, hq1, hq2⟩ := hp
  replace hq1 := hq1.symm
  replace hq2 := hq2.symm
  subst hq1 hq2
  refine fm_cnt (z' := (z.1 + 1, z.2 + 6)) rfl (fm_st (st' := [.int (M3.1 586 0)]) rfl ?_)
  refine fm_iload hc d_Lw_law_615 rfl ?_
  refine fm_icmp_eq (tgt := 622) hc d_Lw_law_617 rfl (fun _ => ?_) (fun g => absurd hth g)
  refine fm_iload hc d_Lw_law_622 rfl ?_
  refine fm_if_ne (tgt := 646) hc d_Lw_law_624 rfl (fun _ => ?_) (fun g => ?_)
  · refine fm_goto (tgt := 1091) hc d_Lw_law_646 rfl ?_
    refine fm_dropl (lv' := [(4, .int (nI i)), (3, .ref 629), (2, .ref 586), (1, .ref 8), (0, .ref 0)]) (by simp) ?_
    exact kk _ hBB
  · refine fm_aload_n hc d_Lw_law_627 rfl rfl ?_
    refine fm_iconst (v := nI 0) hc d_Lw_law_628 rfl ?_
    refine fm_lald (j := 0) (len := 1) hc 3 d_Lw_law_629 (by decide) (by decide) (by decide) rfl (by omega) (by decide) ?_
    refine fm_iload hc d_Lw_law_630 rfl ?_
    refine fm_if_eq (tgt := 639) hc d_Lw_law_632 rfl (fun g2 => ?_) (fun g2 => ?_)
    · have hz0 : lg_cmp (M3.2.1 629 0) 0 = 0 := by rw [hout g, if_pos g2]; exact lg_cmp_self _
      refine fm_lconst (v := 0) hc d_Lw_law_639 rfl ?_
      refine fm_lcmp hc d_Lw_law_640 ?_
      refine fm_top (congrArg Value.int (show _ = (0 : Int32) from hz0)) ?_
      refine fm_if_eq (tgt := 646) hc d_Lw_law_641 rfl (fun _ => ?_) (fun g => absurd rfl g)
      refine fm_goto (tgt := 1091) hc d_Lw_law_646 rfl ?_
      refine fm_dropl (lv' := [(4, .int (nI i)), (3, .ref 629), (2, .ref 586), (1, .ref 8), (0, .ref 0)]) (by simp) ?_
      exact kk _ hBB
    · have hz0 : lg_cmp (M3.2.1 629 0) 1 = 0 := by rw [hout g, if_neg g2]; exact lg_cmp_self _
      refine fm_lconst (v := 1) hc d_Lw_law_635 rfl ?_
      refine fm_goto (tgt := 640) hc d_Lw_law_636 rfl ?_
      refine fm_lcmp hc d_Lw_law_640 ?_
      refine fm_top (congrArg Value.int (show _ = (0 : Int32) from hz0)) ?_
      refine fm_if_eq (tgt := 646) hc d_Lw_law_641 rfl (fun _ => ?_) (fun g => absurd rfl g)
      refine fm_goto (tgt := 1091) hc d_Lw_law_646 rfl ?_
      refine fm_dropl (lv' := [(4, .int (nI i)), (3, .ref 629), (2, .ref 586), (1, .ref 8), (0, .ref 0)]) (by simp) ?_
      exact kk _ hBB
theorem lw_start (hc : fm_Cx p s m args meth c fm_cl b D 7 b_Lw_law "AgentNetLaw" fm_T0 (fm_tys dA)) (hex : fm_EX b x s) (hX : va_X (x 0) len f s s.heap) (hxl : x 0 < s.heap.size) (hxb : x 0 < b) (hlen : len < 2 ^ 31) (hi : i + 5 ≤ len) {k : Int32} {PA : fm_M → Prop} {fr1 lo1 : Nat} (hr1 : fr1 ≤ 11) (hr2 : lo1 ≤ 430) (hz : z.1 + 1 ≤ room_1.cells ∧ z.2 + 6 ≤ room_1.slots) (h1 : Met l y_Lw_start (Cond.codeWith y_Lw_start b_Lw_start 4 (some .int) [(0, 16, 19, 13)] :: fm_T0) ({ frames := fr1, cells := 1, slots := 6, locals := lo1 }) (fm_Pc fm_lay fm_nf fm_fk fm_cl b x D dA (fm_tys dA) (fm_EX b x) false [.ref 8, .int (f (i + 1)), .ref 629] 630 M) (fm_Qc fm_lay fm_nf fm_fk fm_cl b x D dA (fun r n' M' => r = some (.int k) ∧ n' = 630 ∧ PA M')) 1 6 (fm_A b)) (h2 : ∀ M1, PA M1 → ∃ (u : Int32) (fr2 lo2 : Nat) (PB : fm_M → Prop), fr2 ≤ 10 ∧ lo2 ≤ 400 ∧ Met l y_Mo_start (Cond.code y_Mo_start b_Mo_start 2 (some .boolean) :: fm_T0) ({ frames := fr2, cells := 0, slots := 0, locals := lo2 }) (fm_Pc fm_lay fm_nf fm_fk fm_cl b x D dA (fm_tys dA) (fm_EX b x) false [.ref 586, .int (f (i + 1))] 630 M1) (fm_Qc fm_lay fm_nf fm_fk fm_cl b x D dA (fun r n' M' => r = some (.int u) ∧ n' = 630 ∧ PB M')) 0 0 (fm_A b) ∧ ∀ M', PB M' → M'.1 586 0 = k ∧ (k = 0 → M'.2.1 629 0 = (if u = 0 then 0 else 1)) ∧ B M') (kk : ∀ M', B M' → fm_G p l e room_1 s m args below meth c Q fm_lay fm_nf fm_fk fm_cl b x D dA 7 1091 [(4, .int (nI i)), (3, .ref 629), (2, .ref 586), (1, .ref 8), (0, .ref 0)] [] 630 M' (z.1 + 1, z.2 + 6)) : fm_G p l e room_1 s m args below meth c Q fm_lay fm_nf fm_fk fm_cl b x D dA 7 649 [(4, .int (nI i)), (3, .ref 629), (2, .ref 586), (1, .ref 8), (0, .ref 0)] [] 630 M z := by
  refine fm_aload_n hc d_Lw_law_649 rfl rfl ?_
  refine fm_aload_n hc d_Lw_law_650 rfl rfl ?_
  refine fm_iload hc d_Lw_law_651 rfl ?_
  refine fm_iconst (v := nI 1) hc d_Lw_law_653 rfl ?_
  refine fm_iadd hc d_Lw_law_654 ?_
  refine fm_top (congrArg Value.int (nI_add i 1)) ?_
  refine fm_sald (o := 0) (j := i + 1) (len := len) hc d_Lw_law_655 (by decide) hX hxl hxb (by omega) hlen ?_
  refine fm_aload_n hc d_Lw_law_656 rfl rfl ?_
  refine fm_callSW (av := [.ref 8, .int (f (i + 1)), .ref 629]) (rest := []) (y := y_Lw_start) (bytes := b_Lw_start) hc fm_T0_good (fm_EX_st b x) hex q_810 q_0 q_808 q_809 pd_Lw_start (h1) ⟨rfl, rfl, by show fr1 + 1 ≤ 12; omega, by show 8 + (4 + 11) + lo1 ≤ 464; omega⟩ hz d_Lw_law_657 (Nat.le_of_ble_eq_true rfl) (fun r n2 M2 hp => ?_)
  obtain ⟨rfl, hq1, hA⟩ := hp
  subst hq1
  obtain ⟨u, fr2, lo2, PB, hr3, hr4, h2b, hB⟩ := h2 M2 hA
  refine fm_cnt (z' := (z.1 + 1, z.2 + 6)) rfl (fm_st (st' := [.int k]) rfl ?_)
  refine fm_istore (lv' := [(5, .int k), (4, .int (nI i)), (3, .ref 629), (2, .ref 586), (1, .ref 8), (0, .ref 0)]) hc d_Lw_law_660 (by decide) rfl ?_
  refine fm_aload_n hc d_Lw_law_662 rfl rfl ?_
  refine fm_aload_n hc d_Lw_law_663 rfl rfl ?_
  refine fm_iload hc d_Lw_law_664 rfl ?_
  refine fm_iconst (v := nI 1) hc d_Lw_law_666 rfl ?_
  refine fm_iadd hc d_Lw_law_667 ?_
  refine fm_top (congrArg Value.int (nI_add i 1)) ?_
  refine fm_sald (o := 0) (j := i + 1) (len := len) hc d_Lw_law_668 (by decide) hX hxl hxb (by omega) hlen ?_
  refine fm_callV (av := [.int (f (i + 1))]) (rest := []) (ob := 586) (ci := 11) (r0 := ("AgentNetModel", F_Mo, 51)) (y := y_Mo_start) (bytes := b_Mo_start) hc fm_T0_good (fm_EX_st b x) hex q_1214 q_13 q_1211 q_1212 q_1213 pd_Mo_start (by decide) (by decide) (by decide) (by decide) rfl rfl (h2b) ⟨rfl, rfl, by show fr2 + 1 ≤ 12; omega, by show 8 + (2 + 11) + lo2 ≤ 464; omega⟩ hz d_Lw_law_669 (Nat.le_of_ble_eq_true rfl) (fun r n2 M3 hp => ?_)
  obtain ⟨rfl, hq1, hA2⟩ := hp
  subst hq1
  obtain ⟨hth, hout, hBB⟩ := hB _ hA2
  refine fm_cnt (z' := (z.1 + 1, z.2 + 6)) rfl (fm_st (st' := [.int u]) rfl ?_)
  refine fm_istore (lv' := [(6, .int u), (5, .int k), (4, .int (nI i)), (3, .ref 629), (2, .ref 586), (1, .ref 8), (0, .ref 0)]) hc d_Lw_law_672 (by decide) rfl ?_
  refine fm_aload_n hc d_Lw_law_674 rfl rfl ?_
  refine fm_callV (av := []) (rest := []) (ob := 586) (ci := 11) (r0 := ("AgentNetModel", F_Mo, 51)) (y := y_Mo_thrown) (bytes := b_Mo_thrown) hc fm_T0_good (fm_EX_st b x) hex q_1042 q_13 q_1039 q_1040 q_1041 pd_Mo_thrown (by decide) (by decide) (by decide) (by decide) rfl rfl (c_Mo_thrown (by decide)) ⟨rfl, rfl, Nat.le_of_ble_eq_true rfl, Nat.le_of_ble_eq_true rfl⟩ hz d_Lw_law_675 (Nat.le_of_ble_eq_true rfl) (fun r n2 M4 hp => ?_)
  obtain ⟨rfl, hq1, hq2⟩ := hp
  replace hq1 := hq1.symm
  replace hq2 := hq2.symm
  subst hq1 hq2
  refine fm_cnt (z' := (z.1 + 1, z.2 + 6)) rfl (fm_st (st' := [.int (M3.1 586 0)]) rfl ?_)
  refine fm_iload hc d_Lw_law_678 rfl ?_
  refine fm_icmp_eq (tgt := 685) hc d_Lw_law_680 rfl (fun _ => ?_) (fun g => absurd hth g)
  refine fm_iload hc d_Lw_law_685 rfl ?_
  refine fm_if_ne (tgt := 709) hc d_Lw_law_687 rfl (fun _ => ?_) (fun g => ?_)
  · refine fm_goto (tgt := 1091) hc d_Lw_law_709 rfl ?_
    refine fm_dropl (lv' := [(4, .int (nI i)), (3, .ref 629), (2, .ref 586), (1, .ref 8), (0, .ref 0)]) (by simp) ?_
    exact kk _ hBB
  · refine fm_aload_n hc d_Lw_law_690 rfl rfl ?_
    refine fm_iconst (v := nI 0) hc d_Lw_law_691 rfl ?_
    refine fm_lald (j := 0) (len := 1) hc 3 d_Lw_law_692 (by decide) (by decide) (by decide) rfl (by omega) (by decide) ?_
    refine fm_iload hc d_Lw_law_693 rfl ?_
    refine fm_if_eq (tgt := 702) hc d_Lw_law_695 rfl (fun g2 => ?_) (fun g2 => ?_)
    · have hz0 : lg_cmp (M3.2.1 629 0) 0 = 0 := by rw [hout g, if_pos g2]; exact lg_cmp_self _
      refine fm_lconst (v := 0) hc d_Lw_law_702 rfl ?_
      refine fm_lcmp hc d_Lw_law_703 ?_
      refine fm_top (congrArg Value.int (show _ = (0 : Int32) from hz0)) ?_
      refine fm_if_eq (tgt := 709) hc d_Lw_law_704 rfl (fun _ => ?_) (fun g => absurd rfl g)
      refine fm_goto (tgt := 1091) hc d_Lw_law_709 rfl ?_
      refine fm_dropl (lv' := [(4, .int (nI i)), (3, .ref 629), (2, .ref 586), (1, .ref 8), (0, .ref 0)]) (by simp) ?_
      exact kk _ hBB
    · have hz0 : lg_cmp (M3.2.1 629 0) 1 = 0 := by rw [hout g, if_neg g2]; exact lg_cmp_self _
      refine fm_lconst (v := 1) hc d_Lw_law_698 rfl ?_
      refine fm_goto (tgt := 703) hc d_Lw_law_699 rfl ?_
      refine fm_lcmp hc d_Lw_law_703 ?_
      refine fm_top (congrArg Value.int (show _ = (0 : Int32) from hz0)) ?_
      refine fm_if_eq (tgt := 709) hc d_Lw_law_704 rfl (fun _ => ?_) (fun g => absurd rfl g)
      refine fm_goto (tgt := 1091) hc d_Lw_law_709 rfl ?_
      refine fm_dropl (lv' := [(4, .int (nI i)), (3, .ref 629), (2, .ref 586), (1, .ref 8), (0, .ref 0)]) (by simp) ?_
      exact kk _ hBB
theorem lw_net (hc : fm_Cx p s m args meth c fm_cl b D 7 b_Lw_law "AgentNetLaw" fm_T0 (fm_tys dA)) (hex : fm_EX b x s) (hX : va_X (x 0) len f s s.heap) (hxl : x 0 < s.heap.size) (hxb : x 0 < b) (hlen : len < 2 ^ 31) (hi : i + 5 ≤ len) {k : Int32} {PA : fm_M → Prop} {fr1 lo1 : Nat} (hr1 : fr1 ≤ 11) (hr2 : lo1 ≤ 430) (hz : z.1 + 1 ≤ room_1.cells ∧ z.2 + 6 ≤ room_1.slots) (h1 : Met l y_Lw_net (Cond.codeWith y_Lw_net b_Lw_net 5 (some .int) [(0, 10, 13, 13), (0, 10, 17, 41), (0, 10, 21, 15)] :: fm_T0) ({ frames := fr1, cells := 1, slots := 6, locals := lo1 }) (fm_Pc fm_lay fm_nf fm_fk fm_cl b x D dA (fm_tys dA) (fm_EX b x) false [.ref 8, .int (f (i + 1)), .int (f (i + 2)), .ref 629] 630 M) (fm_Qc fm_lay fm_nf fm_fk fm_cl b x D dA (fun r n' M' => r = some (.int k) ∧ n' = 630 ∧ PA M')) 1 6 (fm_A b)) (h2 : ∀ M1, PA M1 → ∃ (u : Int32) (fr2 lo2 : Nat) (PB : fm_M → Prop), fr2 ≤ 10 ∧ lo2 ≤ 400 ∧ Met l y_Mo_net (Cond.code y_Mo_net b_Mo_net 4 (some .int) :: fm_T0) ({ frames := fr2, cells := 0, slots := 0, locals := lo2 }) (fm_Pc fm_lay fm_nf fm_fk fm_cl b x D dA (fm_tys dA) (fm_EX b x) false [.ref 586, .int (f (i + 1)), .int (f (i + 2))] 630 M1) (fm_Qc fm_lay fm_nf fm_fk fm_cl b x D dA (fun r n' M' => r = some (.int u) ∧ n' = 630 ∧ PB M')) 0 0 (fm_A b) ∧ ∀ M', PB M' → M'.1 586 0 = k ∧ (k = 0 → M'.2.1 629 0 = u.toInt64) ∧ B M') (kk : ∀ M', B M' → fm_G p l e room_1 s m args below meth c Q fm_lay fm_nf fm_fk fm_cl b x D dA 7 1091 [(4, .int (nI i)), (3, .ref 629), (2, .ref 586), (1, .ref 8), (0, .ref 0)] [] 630 M' (z.1 + 1, z.2 + 6)) : fm_G p l e room_1 s m args below meth c Q fm_lay fm_nf fm_fk fm_cl b x D dA 7 712 [(4, .int (nI i)), (3, .ref 629), (2, .ref 586), (1, .ref 8), (0, .ref 0)] [] 630 M z := by
  refine fm_aload_n hc d_Lw_law_712 rfl rfl ?_
  refine fm_aload_n hc d_Lw_law_713 rfl rfl ?_
  refine fm_iload hc d_Lw_law_714 rfl ?_
  refine fm_iconst (v := nI 1) hc d_Lw_law_716 rfl ?_
  refine fm_iadd hc d_Lw_law_717 ?_
  refine fm_top (congrArg Value.int (nI_add i 1)) ?_
  refine fm_sald (o := 0) (j := i + 1) (len := len) hc d_Lw_law_718 (by decide) hX hxl hxb (by omega) hlen ?_
  refine fm_aload_n hc d_Lw_law_719 rfl rfl ?_
  refine fm_iload hc d_Lw_law_720 rfl ?_
  refine fm_iconst (v := nI 2) hc d_Lw_law_722 rfl ?_
  refine fm_iadd hc d_Lw_law_723 ?_
  refine fm_top (congrArg Value.int (nI_add i 2)) ?_
  refine fm_sald (o := 0) (j := i + 2) (len := len) hc d_Lw_law_724 (by decide) hX hxl hxb (by omega) hlen ?_
  refine fm_aload_n hc d_Lw_law_725 rfl rfl ?_
  refine fm_callSW (av := [.ref 8, .int (f (i + 1)), .int (f (i + 2)), .ref 629]) (rest := []) (y := y_Lw_net) (bytes := b_Lw_net) hc fm_T0_good (fm_EX_st b x) hex q_821 q_0 q_819 q_820 pd_Lw_net (h1) ⟨rfl, rfl, by show fr1 + 1 ≤ 12; omega, by show 8 + (5 + 11) + lo1 ≤ 464; omega⟩ hz d_Lw_law_726 (Nat.le_of_ble_eq_true rfl) (fun r n2 M2 hp => ?_)
  obtain ⟨rfl, hq1, hA⟩ := hp
  subst hq1
  obtain ⟨u, fr2, lo2, PB, hr3, hr4, h2b, hB⟩ := h2 M2 hA
  refine fm_cnt (z' := (z.1 + 1, z.2 + 6)) rfl (fm_st (st' := [.int k]) rfl ?_)
  refine fm_istore (lv' := [(5, .int k), (4, .int (nI i)), (3, .ref 629), (2, .ref 586), (1, .ref 8), (0, .ref 0)]) hc d_Lw_law_729 (by decide) rfl ?_
  refine fm_aload_n hc d_Lw_law_731 rfl rfl ?_
  refine fm_aload_n hc d_Lw_law_732 rfl rfl ?_
  refine fm_iload hc d_Lw_law_733 rfl ?_
  refine fm_iconst (v := nI 1) hc d_Lw_law_735 rfl ?_
  refine fm_iadd hc d_Lw_law_736 ?_
  refine fm_top (congrArg Value.int (nI_add i 1)) ?_
  refine fm_sald (o := 0) (j := i + 1) (len := len) hc d_Lw_law_737 (by decide) hX hxl hxb (by omega) hlen ?_
  refine fm_aload_n hc d_Lw_law_738 rfl rfl ?_
  refine fm_iload hc d_Lw_law_739 rfl ?_
  refine fm_iconst (v := nI 2) hc d_Lw_law_741 rfl ?_
  refine fm_iadd hc d_Lw_law_742 ?_
  refine fm_top (congrArg Value.int (nI_add i 2)) ?_
  refine fm_sald (o := 0) (j := i + 2) (len := len) hc d_Lw_law_743 (by decide) hX hxl hxb (by omega) hlen ?_
  refine fm_callV (av := [.int (f (i + 1)), .int (f (i + 2))]) (rest := []) (ob := 586) (ci := 11) (r0 := ("AgentNetModel", F_Mo, 51)) (y := y_Mo_net) (bytes := b_Mo_net) hc fm_T0_good (fm_EX_st b x) hex q_1218 q_13 q_1215 q_1216 q_1217 pd_Mo_net (by decide) (by decide) (by decide) (by decide) rfl rfl (h2b) ⟨rfl, rfl, by show fr2 + 1 ≤ 12; omega, by show 8 + (4 + 11) + lo2 ≤ 464; omega⟩ hz d_Lw_law_744 (Nat.le_of_ble_eq_true rfl) (fun r n2 M3 hp => ?_)
  obtain ⟨rfl, hq1, hA2⟩ := hp
  subst hq1
  obtain ⟨hth, hout, hBB⟩ := hB _ hA2
  refine fm_cnt (z' := (z.1 + 1, z.2 + 6)) rfl (fm_st (st' := [.int u]) rfl ?_)
  refine fm_istore (lv' := [(6, .int u), (5, .int k), (4, .int (nI i)), (3, .ref 629), (2, .ref 586), (1, .ref 8), (0, .ref 0)]) hc d_Lw_law_747 (by decide) rfl ?_
  refine fm_aload_n hc d_Lw_law_749 rfl rfl ?_
  refine fm_callV (av := []) (rest := []) (ob := 586) (ci := 11) (r0 := ("AgentNetModel", F_Mo, 51)) (y := y_Mo_thrown) (bytes := b_Mo_thrown) hc fm_T0_good (fm_EX_st b x) hex q_1042 q_13 q_1039 q_1040 q_1041 pd_Mo_thrown (by decide) (by decide) (by decide) (by decide) rfl rfl (c_Mo_thrown (by decide)) ⟨rfl, rfl, Nat.le_of_ble_eq_true rfl, Nat.le_of_ble_eq_true rfl⟩ hz d_Lw_law_750 (Nat.le_of_ble_eq_true rfl) (fun r n2 M4 hp => ?_)
  obtain ⟨rfl, hq1, hq2⟩ := hp
  replace hq1 := hq1.symm
  replace hq2 := hq2.symm
  subst hq1 hq2
  refine fm_cnt (z' := (z.1 + 1, z.2 + 6)) rfl (fm_st (st' := [.int (M3.1 586 0)]) rfl ?_)
  refine fm_iload hc d_Lw_law_753 rfl ?_
  refine fm_icmp_eq (tgt := 760) hc d_Lw_law_755 rfl (fun _ => ?_) (fun g => absurd hth g)
  refine fm_iload hc d_Lw_law_760 rfl ?_
  refine fm_if_ne (tgt := 777) hc d_Lw_law_762 rfl (fun _ => ?_) (fun g => ?_)
  · refine fm_goto (tgt := 1091) hc d_Lw_law_777 rfl ?_
    refine fm_dropl (lv' := [(4, .int (nI i)), (3, .ref 629), (2, .ref 586), (1, .ref 8), (0, .ref 0)]) (by simp) ?_
    exact kk _ hBB
  · have hz0 : lg_cmp (M3.2.1 629 0) u.toInt64 = 0 := by rw [hout g]; exact lg_cmp_self _
    refine fm_aload_n hc d_Lw_law_765 rfl rfl ?_
    refine fm_iconst (v := nI 0) hc d_Lw_law_766 rfl ?_
    refine fm_lald (j := 0) (len := 1) hc 3 d_Lw_law_767 (by decide) (by decide) (by decide) rfl (by omega) (by decide) ?_
    refine fm_iload hc d_Lw_law_768 rfl ?_
    refine fm_i2l hc d_Lw_law_770 ?_
    refine fm_lcmp hc d_Lw_law_771 ?_
    refine fm_top (congrArg Value.int (show _ = (0 : Int32) from hz0)) ?_
    refine fm_if_eq (tgt := 777) hc d_Lw_law_772 rfl (fun _ => ?_) (fun g => absurd rfl g)
    refine fm_goto (tgt := 1091) hc d_Lw_law_777 rfl ?_
    refine fm_dropl (lv' := [(4, .int (nI i)), (3, .ref 629), (2, .ref 586), (1, .ref 8), (0, .ref 0)]) (by simp) ?_
    exact kk _ hBB
end LWC
