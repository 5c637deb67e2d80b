/-! THE WORLD: what holds beside both sides, and what calls make of it -/
theorem fil_le {S : Nat → Nat} : ∀ k, am_fil S k ≤ k
  | 0 => Nat.le_refl 0
  | k + 1 => by
    have := fil_le (S := S) k
    show am_fil S k + (if S k = 0 then 0 else 1) ≤ k + 1
    split <;> omega
def fw_ok (w : Option (List Int32)) (mi ci : Nat) (vi : Nat → Int32) : Prop := (w = none → mi = 0 ∧ ci = 0) ∧ ∀ Wd, w = some Wd → mi = 1 ∧ ci = Wd.length ∧ ∀ (k : Nat) (x : Int32), Wd[k]? = some x → vi k = x
def w_A (up lf : Nat → Nat) (m c s : Nat → am_T) (ms : List mg_T) (C : Nat → Nat) (L : Nat) (sc : Nat → List Nat) (tb : Nat → Nat → Int32) (FC : Nat → Nat) (FV : Nat → Nat → Int32) (mt hm ru pu : Nat → Nat) : Prop :=
  GI m c s ms C L ∧ (∀ j, up j ≤ 1 ∧ lf j ≤ 9 ∧ (lf j ≠ 0 → up j = 1) ∧ (up j = 0 → m j = s j) ∧ (lf j = 0 → c j = s j)) ∧ (∀ a, a < L → hm a < 4 ∧ ru a < 4 ∧ pu a ≤ 200) ∧ (∀ i, i < 8 → (L ≤ i % 4 → mt i = 0 ∧ FC i = 0) ∧ (i % 4 < L → fw_ok (fl_W (sc (ru (i % 4))) tb i (ru (i % 4)) (pu (i % 4)) (hm (i % 4))) (mt i) (FC i) (FV i)))
def w_W (M : fm_M) : Prop := ∃ up lf m c s ms C W L sc tb FC FV mt hm ru pu, w_C up lf m c s ms C W L sc tb FC FV mt M ∧ w_R up lf m c s ms C W L sc tb hm ru pu M ∧ w_A up lf m c s ms C L sc tb FC FV mt hm ru pu
section WAB
variable {up lf : Nat → Nat} {m c s : Nat → am_T} {ms : List mg_T} {C : Nat → Nat} {W : Nat → Nat → Int32} {L : Nat} {sc : Nat → List Nat} {tb : Nat → Nat → Int32} {FC : Nat → Nat} {FV : Nat → Nat → Int32} {mt hm ru pu : Nat → Nat} {M M' : fm_M}
theorem wA_wf (h : w_A up lf m c s ms C L sc tb FC FV mt hm ru pu) : ∀ i, am_wfs (m i) ∧ am_wfs (c i) ∧ am_wfs (s i) := fun i => by
  obtain ⟨⟨N, g, I, q⟩, -⟩ := h
  exact gi_wf q i
theorem wA_W (h : w_A up lf m c s ms C L sc tb FC FV mt hm ru pu) (j : Nat) : am_W (m j) := by
  obtain ⟨⟨N, g, I, q⟩, -⟩ := h
  exact gi_W q j
theorem wA_ms (h : w_A up lf m c s ms C L sc tb FC FV mt hm ru pu) : ∀ q ∈ ms, mg_b L q := by
  obtain ⟨⟨N, g, I, q⟩, -⟩ := h
  exact q.2.2.2
theorem wA_set {j u l : Nat} {x y z : am_T} {mu : List mg_T} {Cn : Nat → Nat} (h : w_A up lf m c s ms C L sc tb FC FV mt hm ru pu) (hG : GI (va_up m j x) (va_up c j y) (va_up s j z) mu Cn L) (hu : u ≤ 1) (hl : l ≤ 9) (h1 : l ≠ 0 → u = 1) (h2 : u = 0 → x = z) (h3 : l = 0 → y = z) : w_A (va_up up j u) (va_up lf j l) (va_up m j x) (va_up c j y) (va_up s j z) mu Cn L sc tb FC FV mt hm ru pu := by
  refine ⟨hG, fun i => ?_, h.2.2⟩
  by_cases e : i = j
  · subst e
    rw [fm_upS, fm_upS, fm_upS, fm_upS, fm_upS]
    exact ⟨hu, hl, h1, h2, h3⟩
  · rw [fm_upN e, fm_upN e, fm_upN e, fm_upN e, fm_upN e]
    exact h.2.1 i
theorem wA_mem {j : Nat} {x : am_T} {mu : List mg_T} (h : w_A up lf m c s ms C L sc tb FC FV mt hm ru pu) (hu : up j = 1) (hG : GI (va_up m j x) c s mu C L) : w_A up lf (va_up m j x) c s mu C L sc tb FC FV mt hm ru pu := by
  have hj := h.2.1 j
  have t := wA_set (j := j) (u := up j) (l := lf j) (x := x) (y := c j) (z := s j) (mu := mu) (Cn := C) h (by rw [va_same (f := c) rfl, va_same (f := s) rfl]; exact hG) hj.1 hj.2.1 hj.2.2.1 (fun e => by omega) hj.2.2.2.2
  rw [va_same (f := up) rfl, va_same (f := lf) rfl, va_same (f := c) rfl, va_same (f := s) rfl] at t
  exact t
theorem wA_ms2 {mu : List mg_T} (h : w_A up lf m c s ms C L sc tb FC FV mt hm ru pu) (hG : GI m c s mu C L) : w_A up lf m c s mu C L sc tb FC FV mt hm ru pu := ⟨hG, h.2⟩
theorem wA_checkpoint {j : Nat} (h : w_A up lf m c s ms C L sc tb FC FV mt hm ru pu) (hu : up j = 1) : w_A up (va_up lf j (am_fil (m j).1 8 + 1)) m (va_up c j (m j)) s ms C L sc tb FC FV mt hm ru pu := by
  have hj := h.2.1 j
  have h8 := fil_le (S := (m j).1) 8
  have t := wA_set (j := j) (u := up j) (l := am_fil (m j).1 8 + 1) (x := m j) (y := m j) (z := s j) (mu := ms) (Cn := C) h (by rw [va_same (f := m) rfl, va_same (f := s) rfl]; exact gi_copy h.1 j) hj.1 (by omega) (fun _ => hu) (fun e => by omega) (fun e => by omega)
  rw [va_same (f := up) rfl, va_same (f := m) rfl, va_same (f := s) rfl] at t
  exact t
theorem wA_less {j k : Nat} (h : w_A up lf m c s ms C L sc tb FC FV mt hm ru pu) (hu : up j = 1) (hk : k < lf j) : w_A up (va_up lf j (lf j - k)) m c s ms C L sc tb FC FV mt hm ru pu := by
  have hj := h.2.1 j
  have t := wA_set (j := j) (u := up j) (l := lf j - k) (x := m j) (y := c j) (z := s j) (mu := ms) (Cn := C) h (by rw [va_same (f := m) rfl, va_same (f := c) rfl, va_same (f := s) rfl]; exact h.1) hj.1 (by omega) (fun _ => hu) (fun e => by omega) (fun e => by omega)
  rw [va_same (f := up) rfl, va_same (f := m) rfl, va_same (f := c) rfl, va_same (f := s) rfl] at t
  exact t
theorem wA_seal {j : Nat} (h : w_A up lf m c s ms C L sc tb FC FV mt hm ru pu) (hj4 : j < 4) (hu : up j = 1) : w_A up (va_up lf j 0) (va_up m j (am_ow (m j) (sl_O (c j) (m j) 8))) c (va_up s j (c j)) (sl_W j (c j) ms 8) (sr_C C (c j).2.2.2.2.2.2.2) L sc tb FC FV mt hm ru pu := by
  have hj := h.2.1 j
  have t := wA_set (j := j) (u := up j) (l := 0) (x := am_ow (m j) (sl_O (c j) (m j) 8)) (y := c j) (z := c j) (mu := sl_W j (c j) ms 8) (Cn := sr_C C (c j).2.2.2.2.2.2.2) h (by rw [va_same (f := c) rfl]; exact gi_seal h.1 hj4) hj.1 (by decide) (fun e => absurd rfl e) (fun e => by omega) (fun _ => rfl)
  rw [va_same (f := up) rfl, va_same (f := c) rfl] at t
  exact t
theorem wA_crash {j : Nat} (h : w_A up lf m c s ms C L sc tb FC FV mt hm ru pu) : w_A (va_up up j 0) (va_up lf j 0) (va_up m j (s j)) (va_up c j (s j)) s ms C L sc tb FC FV mt hm ru pu := by
  have t := wA_set (j := j) (u := 0) (l := 0) (x := s j) (y := s j) (z := s j) (mu := ms) (Cn := C) h (by rw [va_same (f := s) rfl]; exact gi_crash h.1 j) (by decide) (by decide) (fun e => absurd rfl e) (fun _ => rfl) (fun _ => rfl)
  rw [va_same (f := s) rfl] at t
  exact t
theorem wA_start {j : Nat} (h : w_A up lf m c s ms C L sc tb FC FV mt hm ru pu) : w_A (va_up up j 1) lf m c s ms C L sc tb FC FV mt hm ru pu := by
  have hj := h.2.1 j
  have t := wA_set (j := j) (u := 1) (l := lf j) (x := m j) (y := c j) (z := s j) (mu := ms) (Cn := C) h (by rw [va_same (f := m) rfl, va_same (f := c) rfl, va_same (f := s) rfl]; exact h.1) (by decide) hj.2.1 (fun _ => rfl) (fun e => absurd e (by decide)) hj.2.2.2.2
  rw [va_same (f := lf) rfl, va_same (f := m) rfl, va_same (f := c) rfl, va_same (f := s) rfl] at t
  exact t
theorem wA_unk (h : w_A up lf m c s ms C L sc tb FC FV mt hm ru pu) (hL : L < 4) (j : Nat) : (m j).2.1 L = -1 ∧ (m j).2.2.1 L = -1 := by
  obtain ⟨⟨N, g, I, h1, h2, h3, h4⟩, -⟩ := h
  have k := h3.2 L (by omega) (by omega) j
  have r : pr_R L (N L) (g L) (I L) (C L) (fun d => kn (gi_x L s d).2.1) j 0 (ro L (m j)) := ((h1 L (by omega)).2.1 j).1
  unfold ro at r
  refine ⟨kn_0 r.1 k, ?_⟩
  rcases r.2.1.2.2.1 with e | e
  · exact e
  · omega
theorem wA_launch {j p0 f : Nat} (h : w_A up lf m c s ms C L sc tb FC FV mt hm ru pu) (hj : j < 4) (hL : L < 4) (hp : p0 < 4) (hf : f ≤ 200) (hu : up j = 1) : w_A up lf (va_up m j (am_lau L (ag_new L p0 f) (m j))) c s ms C (L + 1) sc tb (fo_C FC L (fa_run (sc p0) tb 200 (ag_new L p0 f) j [] none).1 (fo_2 (sc p0) tb (fa_run (sc p0) tb 200 (ag_new L p0 f) j [] none).2)) (fo_V FV L (fa_run (sc p0) tb 200 (ag_new L p0 f) j [] none).1 (fo_2 (sc p0) tb (fa_run (sc p0) tb 200 (ag_new L p0 f) j [] none).2)) (fo_M mt L (fo_2 (sc p0) tb (fa_run (sc p0) tb 200 (ag_new L p0 f) j [] none).2)) (va_up hm L j) (va_up ru L p0) (va_up pu L f) := by
  obtain ⟨h1, h2, h3, h4⟩ := h
  generalize hw1 : (fa_run (sc p0) tb 200 (ag_new L p0 f) j [] none).1 = w1
  generalize hw2 : fo_2 (sc p0) tb (fa_run (sc p0) tb 200 (ag_new L p0 f) j [] none).2 = w2
  refine ⟨gi_launch h1 hj hL hp hf, fun i => ?_, fun a ha => ?_, fun i hi => ?_⟩
  · by_cases e : i = j
    · subst e
      rw [fm_upS]
      exact ⟨(h2 i).1, (h2 i).2.1, (h2 i).2.2.1, fun e => by omega, (h2 i).2.2.2.2⟩
    · rw [fm_upN e]
      exact h2 i
  · by_cases e : a = L
    · subst e
      rw [fm_upS, fm_upS, fm_upS]
      exact ⟨hj, hp, hf⟩
    · rw [fm_upN e, fm_upN e, fm_upN e]
      exact h3 a (by omega)
  · have other : i ≠ L → i ≠ L + 4 → fo_C FC L w1 w2 i = FC i ∧ fo_V FV L w1 w2 i = FV i ∧ fo_M mt L w2 i = mt i := fun a b => by
      cases w2 with
      | none => exact ⟨fm_upN a, fm_upN a, fm_upN a⟩
      | some w => exact ⟨(fm_upN b).trans (fm_upN a), (fm_upN b).trans (fm_upN a), (fm_upN b).trans (fm_upN a)⟩
    refine ⟨fun e => ?_, fun e => ?_⟩
    · obtain ⟨o1, o2, o3⟩ := other (by omega) (by omega)
      rw [o1, o3]
      exact (h4 i hi).1 (by omega)
    · by_cases g : i % 4 = L
      · have hLL : L % 4 = L := by omega
        rw [g, fm_upS, fm_upS, fm_upS]
        by_cases g2 : i = L
        · have ew : fl_W (sc p0) tb i p0 f j = some w1 := by
            rw [← hw1]
            show (if i < 4 then some (fa_run (sc p0) tb 200 (ag_new (i % 4) p0 f) j [] none).1 else _) = _
            rw [if_pos (by omega), g]
          rw [ew]
          refine ⟨(fun e => nomatch e), fun Wd hW => ?_⟩
          obtain rfl := Option.some.inj hW
          rw [g2]
          cases w2 with
          | none =>
            refine ⟨fm_upS, fm_upS, fun k x hx => ?_⟩
            show va_up FV L (fun i => w1.getD i 0) L k = x
            rw [fm_upS]
            simp [hx]
          | some w =>
            have ne : L ≠ L + 4 := by omega
            refine ⟨(fm_upN ne).trans fm_upS, (fm_upN ne).trans fm_upS, fun k x hx => ?_⟩
            show va_up (va_up FV L (fun i => w1.getD i 0)) (L + 4) (fun i => w.getD i 0) L k = x
            rw [fm_upN ne, fm_upS]
            simp [hx]
        · have g3 : i = L + 4 := by omega
          have ew : fl_W (sc p0) tb i p0 f j = w2 := by
            rw [← hw2]
            show (if i < 4 then _ else fo_2 (sc p0) tb (fa_run (sc p0) tb 200 (ag_new (i % 4) p0 f) j [] none).2) = _
            rw [if_neg (by omega), g]
          have old := (h4 i hi).1 (by omega)
          rw [ew]
          cases w2 with
          | none =>
            refine ⟨fun _ => ⟨(fm_upN (by omega)).trans old.1, (fm_upN (by omega)).trans old.2⟩, fun Wd hW => nomatch hW⟩
          | some w =>
            refine ⟨(fun e => nomatch e), fun Wd hW => ?_⟩
            obtain rfl := Option.some.inj hW
            rw [g3]
            refine ⟨fm_upS, fm_upS, fun k x hx => ?_⟩
            show va_up (va_up FV L (fun i => w1.getD i 0)) (L + 4) (fun i => w.getD i 0) (L + 4) k = x
            rw [fm_upS]
            simp [hx]
      · obtain ⟨o1, o2, o3⟩ := other (by omega) (by omega)
        rw [o1, o2, o3, fm_upN g, fm_upN g, fm_upN g]
        exact (h4 i hi).2 (by omega)
/-- before a launch programs and tables may change -/
theorem wA_zero {sd : Nat → List Nat} {td : Nat → Nat → Int32} (h : w_A up lf m c s ms C L sc tb FC FV mt hm ru pu) (hL : L = 0) : w_A up lf m c s ms C L sd td FC FV mt hm ru pu := ⟨h.1, h.2.1, h.2.2.1, fun i hi => ⟨(h.2.2.2 i hi).1, fun e => by omega⟩⟩
theorem wW_x (f : fx_R M M') (h : w_W M) : w_W M' := by
  obtain ⟨up, lf, m, c, s, ms, C, W, L, sc, tb, FC, FV, mt, hm, ru, pu, h1, h2, h3⟩ := h
  exact ⟨up, lf, m, c, s, ms, C, W, L, sc, tb, FC, FV, mt, hm, ru, pu, wC_lo (fun q a => loE_k f.1 q (Or.inl a)) h1, wR_msg h2 (wA_wf h3) f.1 (f.2 ms h2.2.2.1), h3⟩
theorem wW_t {v : Int32} (h : w_W M) : w_W (fm_put1 M 586 0 v) := by
  obtain ⟨up, lf, m, c, s, ms, C, W, L, sc, tb, FC, FV, mt, hm, ru, pu, h1, h2, h3⟩ := h
  exact ⟨up, lf, m, c, s, ms, C, W, L, sc, tb, FC, FV, mt, hm, ru, pu, wC_lo (fun q a => loE_t q (Or.inl a)) h1, wR_t h2, h3⟩
theorem wW_K (f : fr_K M M') (h : w_W M) : w_W M' := wW_x (fxR_W2 (gi := 96) (gc := 96) (by decide) (by decide) (frW2_W (frW_K f))) h
theorem put2_w {t : Int64} : (fm_put2 M 629 0 t).2.1 629 0 = t := by simp [fm_put2, va_up]
end WAB
