/-! THE LAW'S WALK: its opening, the head of its loop, its switch -/
section LWO
variable {p : Program} {l : Launch} {e : Env} {s : State} {m : MethodId} {args : Array Value} {below : List Frame} {meth : Method} {c : Code} {Q : State → Prop}
variable {b : Nat} {x : Nat → Nat} {D : va_G} {dA : Nat → ClassId} {M : fm_M} {z : Nat × Nat} {f : Nat → Int32} {i len : Nat}
theorem lw_open (hc : fm_Cx p s m args meth c fm_cl b D 7 b_Lw_law "AgentNetLaw" fm_T0 (fm_tys dA)) (hex : fm_EX b x s) (hb : s.heap.size = b) (kk : fm_G p l e room_1 s m args below meth c Q fm_lay fm_nf fm_fk fm_cl b x D dA 7 23 [(4, .int (nI 0)), (3, .ref 629), (2, .ref 586), (1, .ref 8), (0, .ref 0)] [] 630 fm_M2 (622, 17634)) : fm_G p l e room_1 s m args below meth c Q fm_lay fm_nf fm_fk fm_cl b x D dA 7 0 [(0, .ref 0)] [] 8 ((fun _ _ => 0, fun _ _ => 0, fun _ _ => none) : fm_M) (0, 0) := by
  refine fm_new (ci := 0) hc K_An d_Lw_law_0 q_23 q_24 q_1 (by decide) (by decide) (by decide) df_An (by show s.heap.size + 0 = b + (8 - 8); omega) (Nat.le_of_ble_eq_true rfl) (Nat.le_of_ble_eq_true rfl) ?_
  refine fm_cnt (z' := (1, 8)) rfl ?_
  refine fm_dup hc d_Lw_law_3 rfl ?_
  refine fm_callI (av := []) (rest := [.ref 8]) (ob := 8) (n := 9) (M := fm_M0) (y := y_An_init) (bytes := b_An_init) hc fm_T0_good (fm_EX_st b x) hex q_27 q_1 q_25 q_26 rfl pd_An_init c_An_init ⟨rfl, rfl, Nat.le_of_ble_eq_true rfl, Nat.le_of_ble_eq_true rfl⟩ ⟨Nat.le_of_ble_eq_true rfl, Nat.le_of_ble_eq_true rfl⟩ (by show s.heap.size + 1 = b + (9 - 8); omega) d_Lw_law_4 (Nat.le_of_ble_eq_true rfl) (fun r n2 M2 hp => ?_)
  obtain ⟨rfl, rfl, rfl⟩ := hp
  refine fm_cnt (z' := (578, 8978)) rfl (fm_st (st' := [.ref 8]) rfl ?_)
  refine fm_astore_n (lv' := [(1, .ref 8), (0, .ref 0)]) hc d_Lw_law_7 rfl (by decide) rfl ?_
  refine fm_new (ci := 11) hc K_Mo d_Lw_law_8 q_875 q_876 q_13 (by decide) (by decide) (by decide) df_Mo (by show s.heap.size + 578 = b + (586 - 8); omega) (Nat.le_of_ble_eq_true rfl) (Nat.le_of_ble_eq_true rfl) ?_
  refine fm_cnt (z' := (579, 9029)) rfl ?_
  refine fm_dup hc d_Lw_law_11 rfl ?_
  refine fm_callI (av := []) (rest := [.ref 586]) (ob := 586) (n := 587) (M := fm_M1) (y := y_Mo_init) (bytes := b_Mo_init) hc fm_T0_good (fm_EX_st b x) hex q_879 q_13 q_877 q_878 rfl pd_Mo_init c_Mo_init ⟨rfl, rfl, Nat.le_of_ble_eq_true rfl, Nat.le_of_ble_eq_true rfl⟩ ⟨Nat.le_of_ble_eq_true rfl, Nat.le_of_ble_eq_true rfl⟩ (by show s.heap.size + 579 = b + (587 - 8); omega) d_Lw_law_12 (Nat.le_of_ble_eq_true rfl) (fun r n2 M2 hp => ?_)
  obtain ⟨rfl, rfl, rfl⟩ := hp
  refine fm_cnt (z' := (621, 17633)) rfl (fm_st (st' := [.ref 586]) rfl ?_)
  refine fm_astore_n (lv' := [(2, .ref 586), (1, .ref 8), (0, .ref 0)]) hc d_Lw_law_15 rfl (by decide) rfl ?_
  refine fm_iconst (v := nI 1) hc d_Lw_law_16 rfl ?_
  refine fm_newL (len := 1) hc 3 d_Lw_law_17 q_122 (by decide) (by decide) rfl (by decide) (by show s.heap.size + 621 = b + (629 - 8); omega) (Nat.le_of_ble_eq_true rfl) (Nat.le_of_ble_eq_true rfl) ?_
  refine fm_cnt (z' := (622, 17634)) rfl ?_
  refine fm_astore_n (lv' := [(3, .ref 629), (2, .ref 586), (1, .ref 8), (0, .ref 0)]) hc d_Lw_law_19 rfl (by decide) rfl ?_
  refine fm_iconst (v := nI 0) hc d_Lw_law_20 rfl ?_
  refine fm_istore (lv' := [(4, .int (nI 0)), (3, .ref 629), (2, .ref 586), (1, .ref 8), (0, .ref 0)]) hc d_Lw_law_21 (by decide) rfl ?_
  exact kk
theorem lw_enter (hc : fm_Cx p s m args meth c fm_cl b D 7 b_Lw_law "AgentNetLaw" fm_T0 (fm_tys dA)) (hex : fm_EX b x s) (hX : va_X (x 0) len f s s.heap) (hxl : x 0 < s.heap.size) (hxb : x 0 < b) (hlen : len < 2 ^ 30) (hi : i + 5 ≤ len) (kk : fm_G p l e room_1 s m args below meth c Q fm_lay fm_nf fm_fk fm_cl b x D dA 7 39 [(4, .int (nI i)), (3, .ref 629), (2, .ref 586), (1, .ref 8), (0, .ref 0)] [.int (f i &&& nI 31)] 630 M z) : fm_G p l e room_1 s m args below meth c Q fm_lay fm_nf fm_fk fm_cl b x D dA 7 23 [(4, .int (nI i)), (3, .ref 629), (2, .ref 586), (1, .ref 8), (0, .ref 0)] [] 630 M z := by
  refine fm_iload hc d_Lw_law_23 rfl ?_
  refine fm_aload_n hc d_Lw_law_25 rfl rfl ?_
  refine fm_slen (len := len) hc d_Lw_law_26 (by decide) hX hxl hxb ?_
  refine fm_iconst (v := nI 5) hc d_Lw_law_27 rfl ?_
  refine fm_isub hc d_Lw_law_28 ?_
  refine fm_top (congrArg Value.int (pk_sub (a := len) (b := 5) (by omega))) ?_
  refine fm_icmp_gt (tgt := 1097) hc d_Lw_law_29 rfl (fun g => ?_) (fun _ => ?_)
  · have := (nI_ltI (a := len - 5) (b := i) (by omega) (by omega)).mp g
    omega
  refine fm_aload_n hc d_Lw_law_32 rfl rfl ?_
  refine fm_iload hc d_Lw_law_33 rfl ?_
  refine fm_sald (o := 0) (j := i) (len := len) hc d_Lw_law_35 (by decide) hX hxl hxb (by omega) (by omega) ?_
  refine fm_bipush (v := nI 31) hc d_Lw_law_36 rfl ?_
  refine fm_iand hc d_Lw_law_38 ?_
  exact kk
theorem lw_leave (hc : fm_Cx p s m args meth c fm_cl b D 7 b_Lw_law "AgentNetLaw" fm_T0 (fm_tys dA)) (hex : fm_EX b x s) (hX : va_X (x 0) len f s s.heap) (hxl : x 0 < s.heap.size) (hxb : x 0 < b) (hlen : len < 2 ^ 30) (hi : len < i + 5) (hi2 : i < 2 ^ 30) (kk : fm_G p l e room_1 s m args below meth c Q fm_lay fm_nf fm_fk fm_cl b x D dA 7 1097 [(4, .int (nI i)), (3, .ref 629), (2, .ref 586), (1, .ref 8), (0, .ref 0)] [] 630 M z) : fm_G p l e room_1 s m args below meth c Q fm_lay fm_nf fm_fk fm_cl b x D dA 7 23 [(4, .int (nI i)), (3, .ref 629), (2, .ref 586), (1, .ref 8), (0, .ref 0)] [] 630 M z := by
  refine fm_iload hc d_Lw_law_23 rfl ?_
  refine fm_aload_n hc d_Lw_law_25 rfl rfl ?_
  refine fm_slen (len := len) hc d_Lw_law_26 (by decide) hX hxl hxb ?_
  refine fm_iconst (v := nI 5) hc d_Lw_law_27 rfl ?_
  refine fm_isub hc d_Lw_law_28 ?_
  have h1 := pk_sub_toInt (a := len) (b := 5) hlen (by decide)
  have h2 : (nI i).toInt = (i : Int) := by
    have h3 := pk_sub_toInt (a := i) (b := 0) hi2 (by decide)
    rw [pk_sub (Nat.zero_le i)] at h3
    simpa using h3
  refine fm_icmp_gt (tgt := 1097) hc d_Lw_law_29 rfl (fun _ => kk) (fun g => absurd ?_ g)
  rw [Int32.lt_iff_toInt_lt, h1, h2]
  omega
theorem lw_switch (hc : fm_Cx p s m args meth c fm_cl b D 7 b_Lw_law "AgentNetLaw" fm_T0 (fm_tys dA)) {u : Int32} (h0 : fm_G p l e room_1 s m args below meth c Q fm_lay fm_nf fm_fk fm_cl b x D dA 7 128 [(4, .int (nI i)), (3, .ref 629), (2, .ref 586), (1, .ref 8), (0, .ref 0)] [] 630 M z) (h1 : fm_G p l e room_1 s m args below meth c Q fm_lay fm_nf fm_fk fm_cl b x D dA 7 209 [(4, .int (nI i)), (3, .ref 629), (2, .ref 586), (1, .ref 8), (0, .ref 0)] [] 630 M z) (h2 : fm_G p l e room_1 s m args below meth c Q fm_lay fm_nf fm_fk fm_cl b x D dA 7 258 [(4, .int (nI i)), (3, .ref 629), (2, .ref 586), (1, .ref 8), (0, .ref 0)] [] 630 M z) (h3 : fm_G p l e room_1 s m args below meth c Q fm_lay fm_nf fm_fk fm_cl b x D dA 7 338 [(4, .int (nI i)), (3, .ref 629), (2, .ref 586), (1, .ref 8), (0, .ref 0)] [] 630 M z) (h4 : fm_G p l e room_1 s m args below meth c Q fm_lay fm_nf fm_fk fm_cl b x D dA 7 406 [(4, .int (nI i)), (3, .ref 629), (2, .ref 586), (1, .ref 8), (0, .ref 0)] [] 630 M z) (h5 : fm_G p l e room_1 s m args below meth c Q fm_lay fm_nf fm_fk fm_cl b x D dA 7 462 [(4, .int (nI i)), (3, .ref 629), (2, .ref 586), (1, .ref 8), (0, .ref 0)] [] 630 M z) (h6 : fm_G p l e room_1 s m args below meth c Q fm_lay fm_nf fm_fk fm_cl b x D dA 7 518 [(4, .int (nI i)), (3, .ref 629), (2, .ref 586), (1, .ref 8), (0, .ref 0)] [] 630 M z) (h7 : fm_G p l e room_1 s m args below meth c Q fm_lay fm_nf fm_fk fm_cl b x D dA 7 586 [(4, .int (nI i)), (3, .ref 629), (2, .ref 586), (1, .ref 8), (0, .ref 0)] [] 630 M z) (h8 : fm_G p l e room_1 s m args below meth c Q fm_lay fm_nf fm_fk fm_cl b x D dA 7 649 [(4, .int (nI i)), (3, .ref 629), (2, .ref 586), (1, .ref 8), (0, .ref 0)] [] 630 M z) (h9 : fm_G p l e room_1 s m args below meth c Q fm_lay fm_nf fm_fk fm_cl b x D dA 7 712 [(4, .int (nI i)), (3, .ref 629), (2, .ref 586), (1, .ref 8), (0, .ref 0)] [] 630 M z) (h10 : fm_G p l e room_1 s m args below meth c Q fm_lay fm_nf fm_fk fm_cl b x D dA 7 780 [(4, .int (nI i)), (3, .ref 629), (2, .ref 586), (1, .ref 8), (0, .ref 0)] [] 630 M z) (h11 : fm_G p l e room_1 s m args below meth c Q fm_lay fm_nf fm_fk fm_cl b x D dA 7 817 [(4, .int (nI i)), (3, .ref 629), (2, .ref 586), (1, .ref 8), (0, .ref 0)] [] 630 M z) (h12 : fm_G p l e room_1 s m args below meth c Q fm_lay fm_nf fm_fk fm_cl b x D dA 7 854 [(4, .int (nI i)), (3, .ref 629), (2, .ref 586), (1, .ref 8), (0, .ref 0)] [] 630 M z) (h13 : fm_G p l e room_1 s m args below meth c Q fm_lay fm_nf fm_fk fm_cl b x D dA 7 903 [(4, .int (nI i)), (3, .ref 629), (2, .ref 586), (1, .ref 8), (0, .ref 0)] [] 630 M z) (h14 : fm_G p l e room_1 s m args below meth c Q fm_lay fm_nf fm_fk fm_cl b x D dA 7 940 [(4, .int (nI i)), (3, .ref 629), (2, .ref 586), (1, .ref 8), (0, .ref 0)] [] 630 M z) (h15 : fm_G p l e room_1 s m args below meth c Q fm_lay fm_nf fm_fk fm_cl b x D dA 7 965 [(4, .int (nI i)), (3, .ref 629), (2, .ref 586), (1, .ref 8), (0, .ref 0)] [] 630 M z) (h16 : fm_G p l e room_1 s m args below meth c Q fm_lay fm_nf fm_fk fm_cl b x D dA 7 990 [(4, .int (nI i)), (3, .ref 629), (2, .ref 586), (1, .ref 8), (0, .ref 0)] [] 630 M z) (h17 : fm_G p l e room_1 s m args below meth c Q fm_lay fm_nf fm_fk fm_cl b x D dA 7 1028 [(4, .int (nI i)), (3, .ref 629), (2, .ref 586), (1, .ref 8), (0, .ref 0)] [] 630 M z) (h18 : fm_G p l e room_1 s m args below meth c Q fm_lay fm_nf fm_fk fm_cl b x D dA 7 1053 [(4, .int (nI i)), (3, .ref 629), (2, .ref 586), (1, .ref 8), (0, .ref 0)] [] 630 M z) (hd : fm_G p l e room_1 s m args below meth c Q fm_lay fm_nf fm_fk fm_cl b x D dA 7 1091 [(4, .int (nI i)), (3, .ref 629), (2, .ref 586), (1, .ref 8), (0, .ref 0)] [] 630 M z) : fm_G p l e room_1 s m args below meth c Q fm_lay fm_nf fm_fk fm_cl b x D dA 7 39 [(4, .int (nI i)), (3, .ref 629), (2, .ref 586), (1, .ref 8), (0, .ref 0)] [.int u] 630 M z := by
  by_cases h : u.toInt < 0 ∨ 18 < u.toInt
  · exact fm_tableOut (tgt := 1091) hc d_Lw_law_39 h rfl hd
  · rcases (show u.toInt = 0 ∨ u.toInt = 1 ∨ u.toInt = 2 ∨ u.toInt = 3 ∨ u.toInt = 4 ∨ u.toInt = 5 ∨ u.toInt = 6 ∨ u.toInt = 7 ∨ u.toInt = 8 ∨ u.toInt = 9 ∨ u.toInt = 10 ∨ u.toInt = 11 ∨ u.toInt = 12 ∨ u.toInt = 13 ∨ u.toInt = 14 ∨ u.toInt = 15 ∨ u.toInt = 16 ∨ u.toInt = 17 ∨ u.toInt = 18 by omega) with g | g | g | g | g | g | g | g | g | g | g | g | g | g | g | g | g | g | g
    · exact fm_tableIn (off := 89) (tgt := 128) hc d_Lw_law_39 (by omega) (by omega) (by rw [g]; rfl) rfl h0
    · exact fm_tableIn (off := 170) (tgt := 209) hc d_Lw_law_39 (by omega) (by omega) (by rw [g]; rfl) rfl h1
    · exact fm_tableIn (off := 219) (tgt := 258) hc d_Lw_law_39 (by omega) (by omega) (by rw [g]; rfl) rfl h2
    · exact fm_tableIn (off := 299) (tgt := 338) hc d_Lw_law_39 (by omega) (by omega) (by rw [g]; rfl) rfl h3
    · exact fm_tableIn (off := 367) (tgt := 406) hc d_Lw_law_39 (by omega) (by omega) (by rw [g]; rfl) rfl h4
    · exact fm_tableIn (off := 423) (tgt := 462) hc d_Lw_law_39 (by omega) (by omega) (by rw [g]; rfl) rfl h5
    · exact fm_tableIn (off := 479) (tgt := 518) hc d_Lw_law_39 (by omega) (by omega) (by rw [g]; rfl) rfl h6
    · exact fm_tableIn (off := 547) (tgt := 586) hc d_Lw_law_39 (by omega) (by omega) (by rw [g]; rfl) rfl h7
    · exact fm_tableIn (off := 610) (tgt := 649) hc d_Lw_law_39 (by omega) (by omega) (by rw [g]; rfl) rfl h8
    · exact fm_tableIn (off := 673) (tgt := 712) hc d_Lw_law_39 (by omega) (by omega) (by rw [g]; rfl) rfl h9
    · exact fm_tableIn (off := 741) (tgt := 780) hc d_Lw_law_39 (by omega) (by omega) (by rw [g]; rfl) rfl h10
    · exact fm_tableIn (off := 778) (tgt := 817) hc d_Lw_law_39 (by omega) (by omega) (by rw [g]; rfl) rfl h11
    · exact fm_tableIn (off := 815) (tgt := 854) hc d_Lw_law_39 (by omega) (by omega) (by rw [g]; rfl) rfl h12
    · exact fm_tableIn (off := 864) (tgt := 903) hc d_Lw_law_39 (by omega) (by omega) (by rw [g]; rfl) rfl h13
    · exact fm_tableIn (off := 901) (tgt := 940) hc d_Lw_law_39 (by omega) (by omega) (by rw [g]; rfl) rfl h14
    · exact fm_tableIn (off := 926) (tgt := 965) hc d_Lw_law_39 (by omega) (by omega) (by rw [g]; rfl) rfl h15
    · exact fm_tableIn (off := 951) (tgt := 990) hc d_Lw_law_39 (by omega) (by omega) (by rw [g]; rfl) rfl h16
    · exact fm_tableIn (off := 989) (tgt := 1028) hc d_Lw_law_39 (by omega) (by omega) (by rw [g]; rfl) rfl h17
    · exact fm_tableIn (off := 1014) (tgt := 1053) hc d_Lw_law_39 (by omega) (by omega) (by rw [g]; rfl) rfl h18
theorem lw_next (hc : fm_Cx p s m args meth c fm_cl b D 7 b_Lw_law "AgentNetLaw" fm_T0 (fm_tys dA)) (kk : fm_G p l e room_1 s m args below meth c Q fm_lay fm_nf fm_fk fm_cl b x D dA 7 23 [(4, .int (nI (i + 5))), (3, .ref 629), (2, .ref 586), (1, .ref 8), (0, .ref 0)] [] 630 M z) : fm_G p l e room_1 s m args below meth c Q fm_lay fm_nf fm_fk fm_cl b x D dA 7 1091 [(4, .int (nI i)), (3, .ref 629), (2, .ref 586), (1, .ref 8), (0, .ref 0)] [] 630 M z := by
  refine fm_iinc (v := nI (i + 5)) (lv' := [(4, .int (nI (i + 5))), (3, .ref 629), (2, .ref 586), (1, .ref 8), (0, .ref 0)]) hc d_Lw_law_1091 rfl (nI_add i 5) (by decide) rfl ?_
  exact fm_goto (tgt := 23) hc d_Lw_law_1094 rfl kk
end LWO
