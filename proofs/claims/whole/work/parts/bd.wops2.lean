/-! THE WORLD: net, launch, program, table of the class -/
def pb_n (y : Int64) (c : Nat) : Nat := ((((y.toUInt64 >>> ((nI (8 * c)).toInt64.toUInt64 &&& Int64.toUInt64 63)).toInt64).toInt32).toBitVec &&& 255#32).toNat
theorem pb_lt (y : Int64) (c : Nat) : pb_n y c < 256 := by
  unfold pb_n
  rw [BitVec.toNat_and]
  exact Nat.lt_of_le_of_lt Nat.and_le_right (by decide)
theorem pb_ap (y : Int64) (c : Nat) : ap_b y c = nI (pb_n y c) := by
  apply Int32.toBitVec_inj.mp
  show _ = BitVec.ofNat 32 _
  unfold pb_n
  rw [BitVec.ofNat_toNat]
  simp
  rfl
def app_l (y : Int64) : Nat → List Nat
  | 0 => []
  | c + 1 => pb_n y c :: app_l y c
theorem app_len (y : Int64) : ∀ c, (app_l y c).length = c
  | 0 => rfl
  | c + 1 => congrArg (· + 1) (app_len y c)
theorem mapp_fr {o q : Nat} {y : Int64} : ∀ c k (M : fm_M), (m_app o q y c k M).2 = M.2 ∧ (∀ r, r ≠ o → r ≠ q → (m_app o q y c k M).1 r = M.1 r)
  | 0, k, M => ⟨rfl, fun _ _ _ => rfl⟩
  | c + 1, k, M => by
    obtain ⟨i1, i2⟩ := mapp_fr (o := o) (q := q) (y := y) c (k + 1) (fm_put1 (fm_put1 M q k (ap_b y c)) o 1 (nI (k + 1)))
    exact ⟨i1, fun r a b => (i2 r a b).trans (funext fun i => (p1_other a).trans (p1_other b))⟩
theorem mapp_S {j : Nat} {y : Int64} (hj : j < 4) : ∀ c k (M : fm_M) (sc : List Nat), sc.length = k → k + c ≤ 48 → hs_S M j sc → hs_S (m_app (82 + 2 * j) (83 + 2 * j) y c k M) j (sc ++ app_l y c)
  | 0, k, M, sc, _, _, h => by
    show hs_S M j (sc ++ [])
    rw [List.append_nil]
    exact h
  | c + 1, k, M, sc, hl, h48, h => by
    have h2 : hs_S (fm_put1 (fm_put1 M (83 + 2 * j) k (ap_b y c)) (82 + 2 * j) 1 (nI (k + 1))) j (sc ++ [pb_n y c]) := by
      obtain ⟨a1, a2, a3, a4⟩ := h
      refine ⟨?_, ?_, a3, fun i v hv => ?_⟩
      · rw [p1_same, List.length_append, hl]
        rfl
      · rw [List.length_append, hl]
        show k + 1 ≤ 48
        omega
      · rcases ap_at hv with ⟨q1, q2⟩ | ⟨q1, q2⟩
        · rw [p1_other (by omega), p1_at (by omega)]
          exact a4 i v q2
        · rw [p1_other (by omega), q1, hl, p1_same, q2]
          exact ⟨pb_ap y c, pb_lt y c⟩
    have := mapp_S (y := y) hj c (k + 1) _ (sc ++ [pb_n y c]) (by rw [List.length_append, hl]; rfl) (by omega) h2
    rw [List.append_assoc] at this
    exact this
theorem mrapp_fr {p0 : Nat} {y : Int64} : ∀ c k (M : fm_M), (m_rapp p0 y c k M).2 = M.2 ∧ (∀ r, r ≠ 587 → r ≠ 588 → (m_rapp p0 y c k M).1 r = M.1 r)
  | 0, k, M => ⟨rfl, fun _ _ _ => rfl⟩
  | c + 1, k, M => by
    obtain ⟨i1, i2⟩ := mrapp_fr (p0 := p0) (y := y) c (k + 1) (fm_put1 (fm_put1 M 587 (48 * p0 + k) (rb_b y c)) 588 p0 (nI (k + 1)))
    exact ⟨i1, fun r a b => (i2 r a b).trans (funext fun i => (p1_other b).trans (p1_other a))⟩
theorem mrapp_S {p0 : Nat} {y : Int64} (hp : p0 < 4) : ∀ c k (M : fm_M) (sc : Nat → List Nat), c ≤ 8 → (sc p0).length = k → k + c ≤ 48 → (∀ q, q < 4 → hs_R M q (sc q)) → ∀ q, q < 4 → hs_R (m_rapp p0 y c k M) q (va_up sc p0 (sc p0 ++ app_l y c) q)
  | 0, k, M, sc, _, _, _, h => fun q hq => by
    show hs_R M q (va_up sc p0 (sc p0 ++ []) q)
    rw [List.append_nil, va_same rfl]
    exact h q hq
  | c + 1, k, M, sc, h8, hl, h48, h => fun q hq => by
    have h2 : ∀ q, q < 4 → hs_R (fm_put1 (fm_put1 M 587 (48 * p0 + k) (rb_b y c)) 588 p0 (nI (k + 1))) q (va_up sc p0 (sc p0 ++ [pb_n y c]) q) := fun q hq => by
      obtain ⟨a1, a2, a3⟩ := h q hq
      by_cases e : q = p0
      · subst e
        rw [fm_upS]
        refine ⟨?_, ?_, fun i v hv => ?_⟩
        · rw [p1_same, List.length_append, hl]
          rfl
        · rw [List.length_append, hl]
          show k + 1 ≤ 48
          omega
        · rcases ap_at hv with ⟨q1, q2⟩ | ⟨q1, q2⟩
          · rw [p1_other (by decide), p1_at (by omega)]
            exact a3 i v q2
          · rw [p1_other (by decide), q1, hl, p1_same, q2, ← rb_ap y (by omega)]
            exact ⟨pb_ap y c, pb_lt y c⟩
      · rw [fm_upN e]
        refine ⟨(p1_at e).trans ((p1_other (by decide)).trans a1), a2, fun i v hv => ⟨?_, (a3 i v hv).2⟩⟩
        have hil : i < (sc q).length := by
          rcases Nat.lt_or_ge i (sc q).length with w | w
          · exact w
          · rw [List.getElem?_eq_none w] at hv; cases hv
        rw [p1_other (by decide), p1_at (by omega)]
        exact (a3 i v hv).1
    have := mrapp_S (y := y) hp c (k + 1) _ (va_up sc p0 (sc p0 ++ [pb_n y c])) (by omega) (by rw [fm_upS, List.length_append, hl]; rfl) (by omega) h2 q hq
    rw [up_up, fm_upS, List.append_assoc] at this
    exact this
section WOD
variable {l : Launch} {b : Nat} {x : Nat → Nat} {D : va_G} {dA : Nat → ClassId}
variable {up lf : Nat → Nat} {m c s : Nat → am_T} {ms : List mg_T} {C : Nat → Nat} {W : Nat → Nat → Int32} {L : Nat} {sc : Nat → List Nat} {tb : Nat → Nat → Int32} {FC : Nat → Nat} {FV : Nat → Nat → Int32} {mt : Nat → Nat} {M M' : fm_M}
/-- the wire alone has changed -/
theorem wC_msg {mu : List mg_T} (h : w_C up lf m c s ms C W L sc tb FC FV mt M) (e : ∀ q, q < 16 ∨ 60 ≤ q → q < 586 → M'.1 q = M.1 q ∧ M'.2.1 q = M.2.1 q) (e2 : ∀ q, q ≠ 16 → q ≠ 17 → q < 586 → M'.2.2 q = M.2.2 q) (hW : cw_W mu M') : w_C up lf m c s mu C W L sc tb FC FV mt M' := by
  obtain ⟨h1, h2, h3, h4, h5, h6⟩ := h
  exact ⟨cwP_of (fun q a b _ d => e2 q a b d) h1, fun i hi => cwS_of (fun q a b => ⟨(e q (by omega) (by omega)).1, (e q (by omega) (by omega)).2, e2 q (by omega) (by omega) (by omega)⟩) (h2 i hi), hW, hcL_of (e 67 (by omega) (by decide)).1 (e 68 (by omega) (by decide)).1 h4, cwF_of (fun q a b => (e q (by omega) (by omega)).1) h5, cwK_of (by rw [(e 8 (by omega) (by decide)).1]) (fun q a => (e q (by omega) (by omega)).1) (fun q a b => e2 q (by omega) (by omega) (by omega)) h6⟩
theorem wc_double (htr : l.stackTraces = false) {k : Nat} {m0 : mg_T} (h : w_C up lf m c s ms C W L sc tb FC FV mt M) (hk : ms[k]? = some m0) (hl : ms.length < 20) (hok : mg_ok m0) : MetFree l y_An_net (headSpec (Cond.code y_An_net b_An_net 4 (some .int) :: fm_T0) ({ frames := 10, cells := 1, slots := 6, locals := 400 })) (fm_Pc fm_lay fm_nf fm_fk fm_cl b x D dA (fm_tys dA) (fm_EX b x) false [.ref 8, .int (nI k), .int (nI 2)] 630 M) (fun _ _ _ _ _ => True) (fx_Q fm_lay fm_nf fm_fk fm_cl b x D dA (fun r n' M' => r = some (.int (nI (ms.length + 1))) ∧ n' = 630 ∧ (w_C up lf m c s (ms ++ [m0]) C W L sc tb FC FV mt M' ∧ hi_E M M')) (fun _ _ _ => False) 1 6) := by
  obtain ⟨w, hpw, hw⟩ := h.2.2.1
  refine fx_post (x_net_double (n := 630) htr (by decide) h.1.1 hpw hw hk hl hok) (fun r n' M' q => ⟨q.1, q.2.1, ?_, ?_⟩)
  · obtain ⟨-, -, q1, q2, q3⟩ := q
    exact wC_msg h (fun q a b => ⟨q3 q a, by rw [q2]⟩) (fun q _ _ _ => by rw [q2]) ⟨w, by unfold wi_P at hpw ⊢; rw [q2]; exact hpw, q1⟩
  · obtain ⟨-, -, q1, q2, q3⟩ := q
    exact fun q a b => ⟨q3 q (by omega), by rw [q2], by rw [q2]⟩
theorem wc_lose (htr : l.stackTraces = false) {k : Nat} {m0 : mg_T} (h : w_C up lf m c s ms C W L sc tb FC FV mt M) (hk : ms[k]? = some m0) : MetFree l y_An_net (headSpec (Cond.code y_An_net b_An_net 4 (some .int) :: fm_T0) ({ frames := 10, cells := 1, slots := 6, locals := 400 })) (fm_Pc fm_lay fm_nf fm_fk fm_cl b x D dA (fm_tys dA) (fm_EX b x) false [.ref 8, .int (nI k), .int (nI 1)] 630 M) (fun _ _ _ _ _ => True) (fx_Q fm_lay fm_nf fm_fk fm_cl b x D dA (fun r n' M' => r = some (.int (nI (ms.length - 1))) ∧ n' = 630 ∧ (w_C up lf m c s (ms.eraseIdx k) C W L sc tb FC FV mt M' ∧ hi_E M M')) (fun _ _ _ => False) 1 6) := by
  obtain ⟨w, hpw, hw⟩ := h.2.2.1
  refine fx_post (x_net_lose (n := 630) htr (by decide) h.1.1 hpw hw hk) (fun r n' M' q => ⟨q.1, q.2.1, ?_, ?_⟩)
  · obtain ⟨-, -, q1, q2, q3, q4, q5⟩ := q
    exact wC_msg h (fun q a b => ⟨q4 q (by omega), by rw [q3]⟩) (fun q a b _ => q5 q a b) ⟨_, q1, q2⟩
  · obtain ⟨-, -, q1, q2, q3, q4, q5⟩ := q
    exact fun q a b => ⟨q4 q (by omega), by rw [q3], q5 q (by omega) (by omega)⟩
theorem wc_down (htr : l.stackTraces = false) {j k : Nat} {m0 : mg_T} (h : w_C up lf m c s ms C W L sc tb FC FV mt M) (hk : ms[k]? = some m0) (hj : j < 4) (hto : m0.2.2.2.2.1 = nI j) (hu : up j = 0) : MetFree l y_An_net (headSpec (Cond.code y_An_net b_An_net 4 (some .int) :: fm_T0) ({ frames := 10, cells := 1, slots := 6, locals := 400 })) (fm_Pc fm_lay fm_nf fm_fk fm_cl b x D dA (fm_tys dA) (fm_EX b x) false [.ref 8, .int (nI k), .int (nI 0)] 630 M) (fun _ _ _ _ _ => True) (fx_Q fm_lay fm_nf fm_fk fm_cl b x D dA (fun r n' M' => r = some (.int (nI (ms.length - 1))) ∧ n' = 630 ∧ (w_C up lf m c s (ms.eraseIdx k) C W L sc tb FC FV mt M' ∧ hi_E M M')) (fun _ _ _ => False) 1 6) := by
  obtain ⟨w, hpw, hw⟩ := h.2.2.1
  obtain ⟨pa, pb, pc, hT⟩ := h.2.1 j hj
  refine fx_post (x_net_down (n := 630) htr (by decide) h.1.1 hpw hw hk hj hto (by rw [hT.2.2.2.2.2.2.2.2.2.2.1, hu])) (fun r n' M' q => ⟨q.1, q.2.1, ?_, ?_⟩)
  · obtain ⟨-, -, q1, q2, q3, q4, q5⟩ := q
    exact wC_msg h (fun q a b => ⟨q4 q (by omega), by rw [q3]⟩) (fun q a b _ => q5 q a b) ⟨_, q1, q2⟩
  · obtain ⟨-, -, q1, q2, q3, q4, q5⟩ := q
    exact fun q a b => ⟨q4 q (by omega), by rw [q3], q5 q (by omega) (by omega)⟩
theorem wc_deliver (htr : l.stackTraces = false) {j k : Nat} {m0 : mg_T} {A : ag_T} (h : w_C up lf m c s ms C W L sc tb FC FV mt M) (hk : ms[k]? = some m0) (hj : j < 4) (hto : m0.2.2.2.2.1 = nI j) (hu : up j = 1) (hok : mg_ok m0) (ha8 : m0.2.1 < 8) (him : m0.1 = 0 → m0.2.2.2.2.2 = im_B A ∧ ag_wf m0.2.1 A) (hma : am_wfs (m j)) : MetFree l y_An_net (headSpec (Cond.code y_An_net b_An_net 4 (some .int) :: fm_T0) ({ frames := 10, cells := 1, slots := 6, locals := 400 })) (fm_Pc fm_lay fm_nf fm_fk fm_cl b x D dA (fm_tys dA) (fm_EX b x) false [.ref 8, .int (nI k), .int (nI 0)] 630 M) (fun _ _ _ _ _ => True) (fx_Q fm_lay fm_nf fm_fk fm_cl b x D dA (fun r n' M' => r = some (.int (nI (dv_W j m0 (m j) (s j) (ms.eraseIdx k)).length)) ∧ n' = 630 ∧ (w_C up lf (va_up m j (dv_M m0 A (m j))) c s (dv_W j m0 (m j) (s j) (ms.eraseIdx k)) C W L sc tb FC FV mt M' ∧ hi_E M M')) (fun _ _ _ => False) 1 6) := by
  obtain ⟨w, hpw, hw⟩ := h.2.2.1
  obtain ⟨pa, pb, pc, hT⟩ := h.2.1 j hj
  have hT : cw_T j (up j) (lf j) (m j) (c j) (s j) M pa pb pc := hT
  have hP := h.1
  have hM := cwO_M hj hT.1
  have hQ := cwO_M hj hT.2.1
  have hlo := isM_lo hM
  have hin := cwO_in hT.1
  refine fx_post (x_net_up (n := 630) htr (by decide) hP.1 hpw hw hk hj hto (cwT_u hT hu) hM hQ hT.2.2.2.2.2.2.1 hT.2.2.2.2.2.2.2.1 hT.2.2.2.2.2.2.2.2.2.1 (hP.2.2.2.2 pa hM) (hP.2.2.2.2 pb hQ) hok ha8 him (hT.2.2.2.2.2.2.2.2.2.2.2.2.1 hu) hT.2.2.2.2.2.2.2.2.2.2.2.2.2.1 hma) (fun r n' M' q => ⟨q.1, q.2.1, ?_, ?_⟩)
  · obtain ⟨-, -, q1, q2, q3, q4, q5⟩ := q
    have t := wC_wire h (fun q a b => q5 q (by omega) (by omega)) (fun q a b _ => q4 q a b) ⟨_, q1, q2⟩ (cwT_a hT (fun q a b d => q5 q d (by omega)) (q4 _ (by omega) (by omega)) q3)
    rw [va_same (f := up) rfl, va_same (f := lf) rfl, va_same (f := c) rfl, va_same (f := s) rfl] at t
    exact t
  · obtain ⟨-, -, q1, q2, q3, q4, q5⟩ := q
    exact fun q a b => ⟨(q5 q (by omega) (by omega)).1, (q5 q (by omega) (by omega)).2, q4 q (by omega) (by omega)⟩
theorem wc_launch (htr : l.stackTraces = false) {j p0 f : Nat} (h : w_C up lf m c s ms C W L sc tb FC FV mt M) (hj : j < 4) (hL : L < 4) (hp0 : p0 < 4) (hf1 : 1 ≤ f) (hf2 : f ≤ 200) (hu : up j = 1) (hK : (m j).2.1 L = -1) (hO : (m j).2.2.1 L = -1) (hC : FC L = 0) (hC4 : FC (L + 4) = 0) : MetFree l y_An_launch (headSpec (Cond.code y_An_launch b_An_launch 6 (some .int) :: fm_T0) ({ frames := 10, cells := 1, slots := 6, locals := 400 })) (fm_Pc fm_lay fm_nf fm_fk fm_cl b x D dA (fm_tys dA) (fm_EX b x) false [.ref 8, .int (nI j), .int (nI p0), .int (nI f)] 630 M) (fun _ _ _ _ _ => True) (fx_Q fm_lay fm_nf fm_fk fm_cl b x D dA (fun r n' M' => r = some (.int (nI L)) ∧ n' = 630 ∧ (w_C up lf (va_up m j (am_lau L (ag_new L p0 f) (m j))) c s ms C W (L + 1) sc tb (fo_C FC L (fa_run (sc p0) tb 200 (ag_new L p0 f) j [] none).1 (fo_2 (sc p0) tb (fa_run (sc p0) tb 200 (ag_new L p0 f) j [] none).2)) (fo_V FV L (fa_run (sc p0) tb 200 (ag_new L p0 f) j [] none).1 (fo_2 (sc p0) tb (fa_run (sc p0) tb 200 (ag_new L p0 f) j [] none).2)) (fo_M mt L (fo_2 (sc p0) tb (fa_run (sc p0) tb 200 (ag_new L p0 f) j [] none).2)) M' ∧ hi_E M M')) (fun _ _ _ => False) 1 6) := by
  obtain ⟨pa, pb, pc, hT⟩ := h.2.1 j hj
  have hT : cw_T j (up j) (lf j) (m j) (c j) (s j) M pa pb pc := hT
  have hP := h.1
  have hKK := h.2.2.2.2.2
  have hFF := h.2.2.2.2.1
  have hM := cwO_M hj hT.1
  have hlo := isM_lo hM
  have hin := cwO_in hT.1
  refine fx_post (x_launch_all (n := 630) htr (by decide) hP.1 hP.2.1 hP.2.2.1 hj hL hp0 hf1 hf2 hKK.1 (cwT_u hT hu) hM hT.2.2.2.2.2.2.1 (hP.2.2.2.2 pa hM) (hT.2.2.2.2.2.2.2.2.2.2.2.2.1 hu) hK hO (hKK.2.1 p0 hp0) hKK.2.2 hFF.1 hC hC4 hFF.2) (fun r n' M' q => ⟨q.1, q.2.1, ?_, ?_⟩)
  · obtain ⟨-, -, q1, q2, q3, q4, q5, q6, q7⟩ := q
    obtain ⟨h1, h2, h3, h4, h5, h6⟩ := h
    refine ⟨cwP_of (fun q _ _ _ _ => by rw [q5]) h1, fun i hi => ?_, cwW_of (fun q a b => ⟨(q7 q (by omega) (by omega) (by omega)).1, by rw [q5]⟩) h3, hcL_of (q7 67 (by decide) (by omega) (by omega)).1 (q7 68 (by decide) (by omega) (by omega)).1 h4, ⟨q3, q4⟩, q2, fun q hq => hsS_of (q7 _ (by omega) (by omega) (by omega)).1 (q7 _ (by omega) (by omega) (by omega)).1 (by rw [q5]) (h6.2.1 q hq), fun i hi k hk => by rw [(q7 (11 + i) (by omega) (by omega) (by omega)).1]; exact h6.2.2 i hi k hk⟩
    by_cases g : i = j
    · subst g
      rw [fm_upS]
      exact cwT_a hT (fun q a b d => q7 q (by omega) d (by omega)) (by rw [q5]) q1
    · rw [fm_upN g]
      exact cwS_of (fun q a b => ⟨(q7 q (by omega) (by omega) (by omega)).1, (q7 q (by omega) (by omega) (by omega)).2, by rw [q5]⟩) (h2 i hi)
  · obtain ⟨-, -, q1, q2, q3, q4, q5, q6, q7⟩ := q
    exact fun q a b => ⟨(q7 q (by omega) (by omega) (by omega)).1, (q7 q (by omega) (by omega) (by omega)).2, by rw [q5]⟩
theorem wc_program {j c0 : Nat} {y : Int64} (h : w_C up lf m c s ms C W L sc tb FC FV mt M) (hj : j < 4) (h1 : 1 ≤ c0) (h8 : c0 ≤ 8) (hL : L = 0) (h48 : (sc j).length + c0 ≤ 48) : Met l y_An_program (Cond.code y_An_program b_An_program 5 (some .int) :: fm_T0) ({ frames := 1, cells := 0, slots := 0, locals := 24 }) (fm_Pc fm_lay fm_nf fm_fk fm_cl b x D dA (fm_tys dA) (fm_EX b x) false [.ref 8, .int (nI j), .long y, .int (nI c0)] 630 M) (fm_Qc fm_lay fm_nf fm_fk fm_cl b x D dA (fun r n' M' => r = some (.int (nI ((sc j).length + c0))) ∧ n' = 630 ∧ (w_C up lf m c s ms C W L (va_up sc j (sc j ++ app_l y c0)) tb FC FV mt M' ∧ hi_E M M'))) 0 0 (fm_A b) := by
  have hK := h.2.2.2.2.2
  have hS := hK.2.1 j hj
  refine fm_post (c_program_ok (n := 630) (by decide) h.1.1 hj h1 h8 (by rw [hK.1, hL]; decide) hS.1 hS.2.2.1 h48) (fun r n' M' q => ⟨q.1, q.2.1, ?_⟩)
  obtain ⟨-, -, q1⟩ := q
  obtain ⟨f1, f2⟩ := mapp_fr (o := 82 + 2 * j) (q := 83 + 2 * j) (y := y) c0 (sc j).length M
  have f3 := mapp_S (y := y) hj c0 (sc j).length M (sc j) rfl h48 hS
  rw [← q1] at f1 f2 f3
  clear q1
  obtain ⟨h1, h2, h3, h4, h5, h6⟩ := h
  refine ⟨⟨cwP_of (fun q _ _ _ _ => by rw [f1]) h1, fun i hi => cwS_of (fun q a b => ⟨f2 q (by omega) (by omega), by rw [f1], by rw [f1]⟩) (h2 i hi), cwW_of (fun q a b => ⟨f2 q (by omega) (by omega), by rw [f1]⟩) h3, hcL_of (f2 67 (by omega) (by omega)) (f2 68 (by omega) (by omega)) h4, cwF_of (fun q a b => f2 q (by omega) (by omega)) h5, by rw [f2 8 (by omega) (by omega)]; exact h6.1, fun q hq => ?_, fun i hi k hk => by rw [f2 (11 + i) (by omega) (by omega)]; exact h6.2.2 i hi k hk⟩, fun q a b => ⟨f2 q (by omega) (by omega), by rw [f1], by rw [f1]⟩⟩
  by_cases e : q = j
  · subst e
    rw [fm_upS]
    exact f3
  · rw [fm_upN e]
    exact hsS_of (f2 _ (by omega) (by omega)) (f2 _ (by omega) (by omega)) (by rw [f1]) (h6.2.1 q hq)
theorem wc_table {j i : Nat} {u : Int32} (h : w_C up lf m c s ms C W L sc tb FC FV mt M) (hj : j < 4) (hi : i < 8) (hL : L = 0) : Met l y_An_table (Cond.code y_An_table b_An_table 4 (some .boolean) :: fm_T0) ({ frames := 1, cells := 0, slots := 0, locals := 20 }) (fm_Pc fm_lay fm_nf fm_fk fm_cl b x D dA (fm_tys dA) (fm_EX b x) false [.ref 8, .int (nI j), .int (nI i), .int u] 630 M) (fm_Qc fm_lay fm_nf fm_fk fm_cl b x D dA (fun r n' M' => r = some (.int (nI 1)) ∧ n' = 630 ∧ (w_C up lf m c s ms C W L sc (va_up tb j (va_up (tb j) i u)) FC FV mt M' ∧ hi_E M M'))) 0 0 (fm_A b) := by
  have hK := h.2.2.2.2.2
  refine fm_post (c_table_ok (n := 630) (by decide) h.1.1 hj hi (by rw [hK.1, hL]; decide)) (fun r n' M' q => ⟨q.1, q.2.1, ?_⟩)
  obtain ⟨-, -, q1⟩ := q
  have f1 : M'.2 = M.2 := by rw [q1]; rfl
  have f2 : ∀ q, q ≠ 11 + j → M'.1 q = M.1 q := fun q hq => by rw [q1]; exact funext fun k => p1_other hq
  obtain ⟨h1, h2, h3, h4, h5, h6⟩ := h
  refine ⟨⟨cwP_of (fun q _ _ _ _ => by rw [f1]) h1, fun i hi => cwS_of (fun q a b => ⟨f2 q (by omega), by rw [f1], by rw [f1]⟩) (h2 i hi), cwW_of (fun q a b => ⟨f2 q (by omega), by rw [f1]⟩) h3, hcL_of (f2 67 (by omega)) (f2 68 (by omega)) h4, cwF_of (fun q a b => f2 q (by omega)) h5, by rw [f2 8 (by omega)]; exact h6.1, fun q hq => hsS_of (f2 _ (by omega)) (f2 _ (by omega)) (by rw [f1]) (h6.2.1 q hq), fun g hg k hk => ?_⟩, fun q a b => ⟨f2 q (by omega), by rw [f1], by rw [f1]⟩⟩
  by_cases e : g = j
  · subst e
    rw [fm_upS, q1]
    by_cases e2 : k = i
    · subst e2
      rw [p1_same, fm_upS]
    · rw [p1_at e2, fm_upN e2]
      exact h6.2.2 g hg k hk
  · rw [fm_upN e, f2 (11 + g) (by omega)]
    exact h6.2.2 g hg k hk
end WOD
