/-! PERFORM: what each instruction does, as the agent's own words say -/
theorem toN_of {v : Int32} {a c : Nat} {lo hi : Int32} (e1 : lo.toInt = (a : Int)) (e2 : hi.toInt = (c : Int)) (h : fm_wi v lo hi) : v = nI v.toInt.toNat ∧ a ≤ v.toInt.toNat ∧ v.toInt.toNat ≤ c := by
  obtain ⟨h1, h2⟩ := h
  rw [Int32.lt_iff_toInt_lt, e1] at h1
  rw [Int32.lt_iff_toInt_lt, e2] at h2
  have h3 : v = Int32.ofInt v.toInt := (Int32.ofInt_toInt v).symm
  have h4 : v.toInt = (v.toInt.toNat : Int) := by omega
  exact ⟨h3.trans ((congrArg Int32.ofInt h4).trans (by first | rfl | exact Int32.ofInt_eq_ofNat | simp [nI])), by omega, by omega⟩
theorem nI_int {a : Nat} (h : a < 2 ^ 30) : (nI a).toInt = (a : Int) := by
  have h3 := pk_sub_toInt (a := a) (b := 0) h (by decide)
  rw [pk_sub (Nat.zero_le a)] at h3
  simpa using h3
theorem do_plain {l : Launch} {b : Nat} {x : Nat → Nat} {D : va_G} {dA : Nat → ClassId} {tr tb he n c y : Nat} {N : Nat → Nat} {s : List bf_V} {p : List (bf_V × bf_V)} {lo up : bf_V} {tbl : Nat → Int32} {M : fm_M} (hn : 586 ≤ n) (hT : tr_L n tr) (hP : tr_P M tr) (h : hc_A M tr (N, s, p)) (hs6 : s.length + ag_gv c ≤ 6) (hp8 : p.length ≤ 8) (hcd : M.1 60 1 = nI c) (hy : M.1 60 2 = nI y) (hy2 : y < 256) (hlu : 1 ≤ ag_tk c → M.2.1 60 3 = e64 lo ∧ M.2.1 60 4 = e64 up) (c14 : c < 14) (hki : 1 ≤ ag_tk c → (ag_lo c = 1 → ∃ a, lo = .inl a) ∧ (ag_up c = 1 → ∃ a, up = .inl a)) (b5 : c = 5 → y < s.length) (b7 : c = 7 → y < 8) (b13 : c = 13 → fm_wi (ag_int up) 0 20) (htb : 8 ≤ tb ∧ tb < 60 ∧ fm_lay tb = (100, 8) ∧ ∀ k, k < 8 → M.1 tb k = tbl k) (h0 : N 0 < 100) (h7 : N 7 ≤ 1) (h3 : N 3 < 1000) : ∃ Mc : fm_M, Met l y_Pr_doPlain (Cond.code y_Pr_doPlain b_Pr_doPlain 4 (some .int) :: fm_T0) ({ frames := 2, cells := 0, slots := 0, locals := 60 }) (fm_Pc fm_lay fm_nf fm_fk fm_cl b x D dA (fm_tys dA) (fm_EX b x) false [.ref 60, .ref tr, .ref tb, .int (nI he)] n (M)) (fm_Qc fm_lay fm_nf fm_fk fm_cl b x D dA (fun r n' M' => r = some (.int (nI (ag_do c y tbl he N s p lo up).1)) ∧ n' = n ∧ M' = Mc)) 0 0 (fm_A b) ∧ hc_A Mc tr (ag_do c y tbl he N s p lo up).2.2 ∧ (((ag_do c y tbl he N s p lo up).1 = 1 ∨ (ag_do c y tbl he N s p lo up).1 = 2 ∨ (ag_do c y tbl he N s p lo up).1 = 3) → Mc.1 60 5 = (ag_do c y tbl he N s p lo up).2.1) ∧ fr_P tr M Mc := by
  obtain ⟨t8, t3, tl, tl1, tl2, tl3⟩ := hT
  obtain ⟨tb8, tb60, tbl1, tbl2⟩ := htb
  have hd : M.1 tr 8 = nI s.length := h.2.1
  have no : ∀ {a : Nat} {q : Prop}, (0 = 1 ∨ 0 = 2 ∨ 0 = 3) → q := fun g => by rcases g with g | g | g <;> cases g
  rcases (show c = 0 ∨ c = 1 ∨ c = 2 ∨ c = 3 ∨ c = 4 ∨ c = 5 ∨ c = 6 ∨ c = 7 ∨ c = 8 ∨ c = 9 ∨ c = 10 ∨ c = 11 ∨ c = 12 ∨ c = 13 by omega) with rfl | rfl | rfl | rfl | rfl | rfl | rfl | rfl | rfl | rfl | rfl | rfl | rfl | rfl
  · exact ⟨M, c_plain_0 hn t8 (by omega) (by omega) (by omega) (by omega) tl tl1 tl2 tl3 hP.1 hP.2.1 hP.2.2 hcd, h, (fun g => by rcases g with g | g | g <;> cases g), frP_rf tr M⟩
  · refine ⟨fm_put1 (fm_put2 M (tr + 1) s.length ((nI y).toInt8.toInt32.toInt64)) tr 8 (nI (s.length + 1)), c_plain_1 hn t8 (by omega) (by omega) (by omega) (by omega) tl tl1 tl2 tl3 hP.1 hP.2.1 hP.2.2 hcd hy hd (show s.length < 6 from Nat.lt_of_succ_le hs6), hcA_push rfl rfl h, (fun g => by rcases g with g | g | g <;> cases g), (frP_p1 (Or.inl rfl) (frP_p2 (Or.inl (Or.inl rfl)) (frP_rf tr M)))⟩
  · obtain ⟨a, rfl⟩ := (hki (by decide)).1 rfl
    obtain ⟨v, rfl⟩ := (hki (by decide)).2 rfl
    obtain ⟨hl, hu⟩ := hlu (by decide)
    refine ⟨fm_put1 (fm_put2 M (tr + 1) s.length ((a + v).toInt64)) tr 8 (nI (s.length + 1)), c_plain_2 hn t8 (by omega) (by omega) (by omega) (by omega) tl tl1 tl2 tl3 hP.1 hP.2.1 hP.2.2 hcd hl hu hd (show s.length < 6 from Nat.lt_of_succ_le hs6), hcA_push rfl rfl h, (fun g => by rcases g with g | g | g <;> cases g), (frP_p1 (Or.inl rfl) (frP_p2 (Or.inl (Or.inl rfl)) (frP_rf tr M)))⟩
  · obtain ⟨a, rfl⟩ := (hki (by decide)).1 rfl
    obtain ⟨v, rfl⟩ := (hki (by decide)).2 rfl
    obtain ⟨hl, hu⟩ := hlu (by decide)
    refine ⟨fm_put1 (fm_put2 M (tr + 1) s.length ((a - v).toInt64)) tr 8 (nI (s.length + 1)), c_plain_3 hn t8 (by omega) (by omega) (by omega) (by omega) tl tl1 tl2 tl3 hP.1 hP.2.1 hP.2.2 hcd hl hu hd (show s.length < 6 from Nat.lt_of_succ_le hs6), hcA_push rfl rfl h, (fun g => by rcases g with g | g | g <;> cases g), (frP_p1 (Or.inl rfl) (frP_p2 (Or.inl (Or.inl rfl)) (frP_rf tr M)))⟩
  · obtain ⟨a, rfl⟩ := (hki (by decide)).1 rfl
    obtain ⟨v, rfl⟩ := (hki (by decide)).2 rfl
    obtain ⟨hl, hu⟩ := hlu (by decide)
    refine ⟨fm_put1 (fm_put2 M (tr + 1) s.length ((a * v).toInt64)) tr 8 (nI (s.length + 1)), c_plain_4 hn t8 (by omega) (by omega) (by omega) (by omega) tl tl1 tl2 tl3 hP.1 hP.2.1 hP.2.2 hcd hl hu hd (show s.length < 6 from Nat.lt_of_succ_le hs6), hcA_push rfl rfl h, (fun g => by rcases g with g | g | g <;> cases g), (frP_p1 (Or.inl rfl) (frP_p2 (Or.inl (Or.inl rfl)) (frP_rf tr M)))⟩
  · have hy5 := b5 rfl
    have hv : M.2.1 (tr + 1) (s.length - 1 - y) = e64 (s.getD (s.length - 1 - y) (.inl 0)) := h.2.2.2.1 _ _ (getD_mem (s := s) (k := s.length - 1 - y) (by omega)).1
    refine ⟨fm_put1 (fm_put2 M (tr + 1) s.length (e64 (s.getD (s.length - 1 - y) (.inl 0)))) tr 8 (nI (s.length + 1)), c_plain_5 hn t8 (by omega) (by omega) (by omega) (by omega) tl tl1 tl2 tl3 hP.1 hP.2.1 hP.2.2 hcd hy hd (show s.length < 6 from Nat.lt_of_succ_le hs6) (b5 rfl) hv, hcA_push rfl rfl h, (fun g => by rcases g with g | g | g <;> cases g), (frP_p1 (Or.inl rfl) (frP_p2 (Or.inl (Or.inl rfl)) (frP_rf tr M)))⟩
  · exact ⟨M, c_plain_6 hn t8 (by omega) (by omega) (by omega) (by omega) tl tl1 tl2 tl3 hP.1 hP.2.1 hP.2.2 hcd, h, (fun g => by rcases g with g | g | g <;> cases g), frP_rf tr M⟩
  · refine ⟨fm_put1 (fm_put2 M (tr + 1) s.length ((M.1 tb y).toInt64)) tr 8 (nI (s.length + 1)), c_plain_7 hn t8 (by omega) (by omega) (by omega) (by omega) tl tl1 tl2 tl3 hP.1 hP.2.1 hP.2.2 hcd hy hd (show s.length < 6 from Nat.lt_of_succ_le hs6) (b7 rfl) tb8 (by omega) tbl1, hcA_push rfl (by rw [tbl2 y (b7 rfl)]; rfl) h, (fun g => by rcases g with g | g | g <;> cases g), (frP_p1 (Or.inl rfl) (frP_p2 (Or.inl (Or.inl rfl)) (frP_rf tr M)))⟩
  · obtain ⟨v, rfl⟩ := (hki (by decide)).2 rfl
    obtain ⟨hl, hu⟩ := hlu (by decide)
    refine ⟨fm_put1 (fm_put1 M tr 5 (nI (N 5 + 1))) 60 5 v, c_plain_8 hn t8 (by omega) (by omega) (by omega) (by omega) tl tl1 tl2 tl3 hP.1 hP.2.1 hP.2.2 hcd (c_say hn t8 (by omega) (by omega) (by omega) (by omega) tl tl1 tl2 tl3 hP.1 hP.2.1 hP.2.2 hu (h.1 5 (by decide))), hcA_o1 (by omega) (hcA_num (by decide) h), fun _ => p1_same _ _ _ _, frP_p1 (Or.inr (by decide)) (frP_p1 (Or.inl rfl) (frP_rf tr M))⟩
  · obtain ⟨v, rfl⟩ := (hki (by decide)).2 rfl
    obtain ⟨hl, hu⟩ := hlu (by decide)
    by_cases g : v = nI he
    · have e : ag_do 9 y tbl he N s p lo (.inl v) = (0, 0, N, s, p) := if_pos g
      rw [e]
      exact ⟨M, c_plain_9 hn t8 (by omega) (by omega) (by omega) (by omega) tl tl1 tl2 tl3 hP.1 hP.2.1 hP.2.2 hcd (c_go_stay hn t8 (by omega) (by omega) (by omega) (by omega) tl tl1 tl2 tl3 hP.1 hP.2.1 hP.2.2 hu g), h, (fun g => by rcases g with g | g | g <;> cases g), frP_rf tr M⟩
    · have e : ag_do 9 y tbl he N s p lo (.inl v) = (2, v, va_up N 4 (N 4 + 1), s, p) := if_neg g
      rw [e]
      exact ⟨fm_put1 (fm_put1 M tr 4 (nI (N 4 + 1))) 60 5 v, c_plain_9 hn t8 (by omega) (by omega) (by omega) (by omega) tl tl1 tl2 tl3 hP.1 hP.2.1 hP.2.2 hcd (c_go_move hn t8 (by omega) (by omega) (by omega) (by omega) tl tl1 tl2 tl3 hP.1 hP.2.1 hP.2.2 hu g (h.1 4 (by decide))), hcA_o1 (by omega) (hcA_num (by decide) h), fun _ => p1_same _ _ _ _, frP_p1 (Or.inr (by decide)) (frP_p1 (Or.inl rfl) (frP_rf tr M))⟩
  · exact ⟨fm_put1 M tr 2 (nI y), c_plain_10 hn t8 (by omega) (by omega) (by omega) (by omega) tl tl1 tl2 tl3 hP.1 hP.2.1 hP.2.2 hcd hy, hcA_num (by decide) h, (fun g => by rcases g with g | g | g <;> cases g), frP_p1 (Or.inl rfl) (frP_rf tr M)⟩
  · obtain ⟨v, rfl⟩ := (hki (by decide)).2 rfl
    obtain ⟨hl, hu⟩ := hlu (by decide)
    by_cases g : v = 0
    · have e : ag_do 11 y tbl he N s p lo (.inl v) = (0, 0, N, s, p) := by
        show (0, 0, (if v = 0 then N else va_up N 2 y), s, p) = _
        rw [if_pos g]
      rw [e]
      exact ⟨M, c_plain_11z hn t8 (by omega) (by omega) (by omega) (by omega) tl tl1 tl2 tl3 hP.1 hP.2.1 hP.2.2 hcd hy hu g, h, (fun g => by rcases g with g | g | g <;> cases g), frP_rf tr M⟩
    · have e : ag_do 11 y tbl he N s p lo (.inl v) = (0, 0, va_up N 2 y, s, p) := by
        show (0, 0, (if v = 0 then N else va_up N 2 y), s, p) = _
        rw [if_neg g]
      rw [e]
      exact ⟨fm_put1 M tr 2 (nI y), c_plain_11 hn t8 (by omega) (by omega) (by omega) (by omega) tl tl1 tl2 tl3 hP.1 hP.2.1 hP.2.2 hcd hy hu g, hcA_num (by decide) h, (fun g => by rcases g with g | g | g <;> cases g), frP_p1 (Or.inl rfl) (frP_rf tr M)⟩
  · obtain ⟨v, rfl⟩ := (hki (by decide)).2 rfl
    obtain ⟨hl, hu⟩ := hlu (by decide)
    have eno : (4 ≤ N 0 ∨ N 7 ≠ 0 ∨ v < 1 ∨ nI (N 3) < v) → ag_do 12 y tbl he N s p lo (.inl v) = (0, 0, N, s ++ [.inl (-1)], p) := fun g => if_pos g
    by_cases g1 : 4 ≤ N 0
    · rw [eno (Or.inl g1)]
      exact ⟨fm_put1 (fm_put2 M (tr + 1) s.length (-1)) tr 8 (nI (s.length + 1)), c_plain_12 hn t8 (by omega) (by omega) (by omega) (by omega) tl tl1 tl2 tl3 hP.1 hP.2.1 hP.2.2 hcd (c_div_old hn t8 (by omega) (by omega) (by omega) (by omega) tl tl1 tl2 tl3 hP.1 hP.2.1 hP.2.2 hu hd (show s.length < 6 from Nat.lt_of_succ_le hs6) (h.1 0 (by decide)) h0 g1), hcA_push rfl rfl h, (fun g => by rcases g with g | g | g <;> cases g), (frP_p1 (Or.inl rfl) (frP_p2 (Or.inl (Or.inl rfl)) (frP_rf tr M)))⟩
    · by_cases g2 : N 7 = 0
      · have e7 : M.1 tr 7 = 0 := by rw [h.1 7 (by decide)]; show nI (N 7) = 0; rw [g2]; rfl
        by_cases g3 : v < 1
        · rw [eno (Or.inr (Or.inr (Or.inl g3)))]
          exact ⟨fm_put1 (fm_put2 M (tr + 1) s.length (-1)) tr 8 (nI (s.length + 1)), c_plain_12 hn t8 (by omega) (by omega) (by omega) (by omega) tl tl1 tl2 tl3 hP.1 hP.2.1 hP.2.2 hcd (c_div_low hn t8 (by omega) (by omega) (by omega) (by omega) tl tl1 tl2 tl3 hP.1 hP.2.1 hP.2.2 hu hd (show s.length < 6 from Nat.lt_of_succ_le hs6) (h.1 0 (by decide)) h0 (Nat.lt_of_not_le g1) e7 g3), hcA_push rfl rfl h, (fun g => by rcases g with g | g | g <;> cases g), (frP_p1 (Or.inl rfl) (frP_p2 (Or.inl (Or.inl rfl)) (frP_rf tr M)))⟩
        · by_cases g4 : nI (N 3) < v
          · rw [eno (Or.inr (Or.inr (Or.inr g4)))]
            exact ⟨fm_put1 (fm_put2 M (tr + 1) s.length (-1)) tr 8 (nI (s.length + 1)), c_plain_12 hn t8 (by omega) (by omega) (by omega) (by omega) tl tl1 tl2 tl3 hP.1 hP.2.1 hP.2.2 hcd (c_div_much hn t8 (by omega) (by omega) (by omega) (by omega) tl tl1 tl2 tl3 hP.1 hP.2.1 hP.2.2 hu hd (show s.length < 6 from Nat.lt_of_succ_le hs6) (h.1 0 (by decide)) h0 (Nat.lt_of_not_le g1) e7 g3 (h.1 3 (by decide)) g4), hcA_push rfl rfl h, (fun g => by rcases g with g | g | g <;> cases g), (frP_p1 (Or.inl rfl) (frP_p2 (Or.inl (Or.inl rfl)) (frP_rf tr M)))⟩
          · have e : ag_do 12 y tbl he N s p lo (.inl v) = (3, v, va_up (va_up N 3 (N 3 - v.toInt.toNat)) 7 1, s ++ [.inl 0], p) := if_neg (fun g => by
              rcases g with g | g | g | g
              · exact g1 g
              · exact g g2
              · exact g3 g
              · exact g4 g)
            rw [e]
            obtain ⟨k1, k2, k3⟩ := toN_of (a := 1) (c := N 3) (lo := 1) (hi := nI (N 3)) (by decide) (nI_int (by omega)) ⟨g3, g4⟩
            have ef : nI (N 3) - v = nI (N 3 - v.toInt.toNat) := (congrArg (fun w => nI (N 3) - w) k1).trans (pk_sub k3)
            refine ⟨_, c_plain_12 hn t8 (by omega) (by omega) (by omega) (by omega) tl tl1 tl2 tl3 hP.1 hP.2.1 hP.2.2 hcd (c_div_ok hn t8 (by omega) (by omega) (by omega) (by omega) tl tl1 tl2 tl3 hP.1 hP.2.1 hP.2.2 hu hd (show s.length < 6 from Nat.lt_of_succ_le hs6) (h.1 0 (by decide)) h0 (Nat.lt_of_not_le g1) e7 g3 (h.1 3 (by decide)) g4), ?_, ?_, ?_⟩
            · rw [ef]
              exact hcA_push rfl rfl (hcA_num (by decide) (hcA_num (by decide) (hcA_o1 (by omega) h)))
            · intro _
              rw [p1_other (by omega)]
              show (fm_put1 (fm_put1 (fm_put1 M 60 5 v) tr 3 (nI (N 3) - v)) tr 7 (nI 1)).1 60 5 = v
              rw [p1_other (by omega), p1_other (by omega), p1_same]
            · exact frP_p1 (Or.inl rfl) (frP_p2 (Or.inl (Or.inl rfl)) (frP_p1 (Or.inl rfl) (frP_p1 (Or.inl rfl) (frP_p1 (Or.inr (by decide)) (frP_rf tr M)))))
      · rw [eno (Or.inr (Or.inl g2))]
        exact ⟨fm_put1 (fm_put2 M (tr + 1) s.length (-1)) tr 8 (nI (s.length + 1)), c_plain_12 hn t8 (by omega) (by omega) (by omega) (by omega) tl tl1 tl2 tl3 hP.1 hP.2.1 hP.2.2 hcd (c_div_twice hn t8 (by omega) (by omega) (by omega) (by omega) tl tl1 tl2 tl3 hP.1 hP.2.1 hP.2.2 hu hd (show s.length < 6 from Nat.lt_of_succ_le hs6) (h.1 0 (by decide)) h0 (Nat.lt_of_not_le g1) (by rw [h.1 7 (by decide)]; show ¬ nI (N 7) = 0; rw [show N 7 = 1 by omega]; decide)), hcA_push rfl rfl h, (fun g => by rcases g with g | g | g <;> cases g), (frP_p1 (Or.inl rfl) (frP_p2 (Or.inl (Or.inl rfl)) (frP_rf tr M)))⟩
  · obtain ⟨v, rfl⟩ := (hki (by decide)).2 rfl
    obtain ⟨hl, hu⟩ := hlu (by decide)
    obtain ⟨k1, k2, k3⟩ := toN_of (a := 0) (c := 20) (by decide) (by decide) (b13 rfl)
    refine ⟨fm_put1 M tr 6 v, c_plain_13 hn t8 (by omega) (by omega) (by omega) (by omega) tl tl1 tl2 tl3 hP.1 hP.2.1 hP.2.2 hcd hu, ?_, (fun g => by rcases g with g | g | g <;> cases g), frP_p1 (Or.inl rfl) (frP_rf tr M)⟩
    have ev : fm_put1 M tr 6 v = fm_put1 M tr 6 (nI v.toInt.toNat) := congrArg (fm_put1 M tr 6) k1
    rw [ev]
    exact hcA_num (by decide) h
