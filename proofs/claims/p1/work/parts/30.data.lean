/-! DATA: what lies where. Ids 8 .. 585 are the object of the class and what its constructor makes, 586 .. 628 the reference and its arrays, 629 the long that the law hands round. -/
def fm_lay0 : List (Nat × Nat) := [(0, 0), (120, 4), (124, 4), (100, 8), (100, 8), (100, 8), (100, 8), (121, 4), (4, 0), (122, 20), (9, 0), (102, 121), (9, 0), (102, 121), (9, 0), (102, 121), (9, 0), (102, 121), (9, 0), (102, 121), (9, 0), (102, 121), (9, 0), (102, 121), (9, 0), (102, 121), (9, 0), (102, 121), (9, 0), (102, 121), (9, 0), (102, 121), (9, 0), (102, 121), (9, 0), (102, 121), (9, 0), (102, 121), (9, 0), (102, 121), (9, 0), (102, 121), (9, 0), (102, 121), (9, 0), (102, 121), (9, 0), (102, 121), (9, 0), (102, 121), (9, 0), (102, 121), (10, 0), (3, 0), (100, 8), (100, 8), (110, 8), (110, 8), (2, 0), (100, 8), (100, 128), (7, 0), (2, 0), (100, 8), (100, 128), (101, 8), (5, 0), (110, 6), (110, 8), (110, 8), (5, 0), (110, 6), (110, 8), (110, 8), (1, 0), (100, 48), (1, 0), (100, 48), (1, 0), (100, 48), (1, 0), (100, 48)]
def fm_layM : List (Nat × Nat) := [(6, 0), (100, 8), (100, 8), (100, 8), (100, 8), (123, 8), (2, 0), (100, 8), (100, 128), (5, 0), (110, 6), (110, 8), (110, 8), (5, 0), (110, 6), (110, 8), (110, 8), (5, 0), (110, 6), (110, 8), (110, 8), (5, 0), (110, 6), (110, 8), (110, 8), (5, 0), (110, 6), (110, 8), (110, 8), (5, 0), (110, 6), (110, 8), (110, 8), (5, 0), (110, 6), (110, 8), (110, 8), (5, 0), (110, 6), (110, 8), (110, 8)]
def fm_layR : List (Nat × Nat) := [(11, 0), (100, 192), (100, 4), (100, 32), (100, 4), (100, 4), (100, 4), (100, 8), (100, 128), (101, 4), (100, 4), (100, 96), (100, 96), (100, 96), (100, 96), (100, 96), (100, 96), (100, 1536), (101, 8), (100, 98), (100, 98), (100, 98), (100, 98), (100, 98), (100, 98), (101, 98), (100, 98), (110, 588), (100, 98), (110, 882), (110, 882), (100, 9), (100, 9), (110, 9), (110, 9), (101, 21), (100, 21), (100, 21), (100, 21), (100, 21), (100, 21), (100, 2688), (100, 16), (110, 1)]
def fm_lay (o : Nat) : Nat × Nat := if o < 90 then fm_lay0.getD (o - 8) (99, 0) else if o < 586 then (if (o - 90) % 124 = 0 then (8, 0) else fm_layM.getD (((o - 90) % 124 - 1) % 41) (99, 0)) else fm_layR.getD (o - 586) (99, 0)
abbrev fm_tys (dA : Nat → ClassId) : List (ClassId × FieldType) := [(dA 100, .int), (dA 101, .boolean), (dA 102, .byte), (dA 110, .long), (dA 120, .object "AgentNet$Script"), (dA 121, .object "AgentNet$Site"), (dA 122, .object "AgentNet$Message"), (dA 123, .object "AgentNet$Traveller"), (dA 124, .array .int)]
-- the reference's arrays, by their ids
abbrev r_bytes : Nat := 587
abbrev r_lengths : Nat := 588
abbrev r_tables : Nat := 589
abbrev r_home : Nat := 590
abbrev r_rule : Nat := 591
abbrev r_purse : Nat := 592
abbrev r_count : Nat := 593
abbrev r_freed : Nat := 594
abbrev r_up : Nat := 595
abbrev r_left : Nat := 596
abbrev r_slot : Nat := 597
abbrev r_goal : Nat := 598
abbrev r_known : Nat := 599
abbrev r_owed : Nat := 600
abbrev r_note : Nat := 601
abbrev r_told : Nat := 602
abbrev r_words : Nat := 603
abbrev r_turn : Nat := 604
abbrev r_program : Nat := 605
abbrev r_place : Nat := 606
abbrev r_fuel : Nat := 607
abbrev r_hops : Nat := 608
abbrev r_said : Nat := 609
abbrev r_wait : Nat := 610
abbrev r_cloned : Nat := 611
abbrev r_size : Nat := 612
abbrev r_stack : Nat := 613
abbrev r_pairs : Nat := 614
abbrev r_first : Nat := 615
abbrev r_second : Nat := 616
abbrev r_order : Nat := 617
abbrev r_rank : Nat := 618
abbrev r_heads : Nat := 619
abbrev r_tails : Nat := 620
abbrev r_receipt : Nat := 621
abbrev r_who : Nat := 622
abbrev r_far : Nat := 623
abbrev r_from : Nat := 624
abbrev r_to : Nat := 625
abbrev r_long1 : Nat := 626
abbrev r_image : Nat := 627
abbrev r_freeWords : Nat := 628
def fm_nest : List (String × Nat × MethodName × String) := [("AgentNet$Wire", 21, ⟨"AgentNet$Message", "<init>", "()V"⟩, "AgentNet"), ("AgentNet", 35, ⟨"AgentNet$Processor", "<init>", "()V"⟩, "AgentNet"), ("AgentNet$Processor", 11, ⟨"AgentNet$Numbering", "<init>", "()V"⟩, "AgentNet"), ("AgentNet", 42, ⟨"AgentNet$Sayings", "<init>", "()V"⟩, "AgentNet"), ("AgentNet", 49, ⟨"AgentNet$FreeRun", "<init>", "()V"⟩, "AgentNet"), ("AgentNet$FreeRun", 11, ⟨"AgentNet$Sayings", "<init>", "()V"⟩, "AgentNet"), ("AgentNet$FreeRun", 24, ⟨"AgentNet$Traveller", "<init>", "()V"⟩, "AgentNet"), ("AgentNet", 58, ⟨"AgentNet$Script", "<init>", "()V"⟩, "AgentNet"), ("AgentNet$Memory", 32, ⟨"AgentNet$Sayings", "<init>", "()V"⟩, "AgentNet"), ("AgentNet$Memory", 43, ⟨"AgentNet$Traveller", "<init>", "()V"⟩, "AgentNet"), ("AgentNet$Traveller", 69, ⟨"AgentNet", "isPair", "(J)Z"⟩, "AgentNet"), ("AgentNet$Sayings", 18, ⟨"AgentNet", "isAgent", "(I)Z"⟩, "AgentNet"), ("AgentNet$Processor", 99, ⟨"AgentNet", "isPair", "(J)Z"⟩, "AgentNet"), ("AgentNet$Numbering", 58, ⟨"AgentNet", "isPair", "(J)Z"⟩, "AgentNet"), ("AgentNet$Message", 108, ⟨"AgentNet", "isPair", "(J)Z"⟩, "AgentNet")]
def fm_tab0 : List Int32 := [1, 2, 1, 1, 1, 2, 1, 2, 1, 1, 2, 2, 1, 1, 1, 1, 1, 1, 1, 1]
def fm_tab1 : List Int32 := [0, 0, 2, 2, 2, 0, 1, 0, 1, 1, 0, 1, 1, 1, 2, 1, 1, 2, 2, 2]
def fm_tab2 : List Int32 := [0, 1, 1, 1, 1, 1, 0, 1, 0, 0, 0, 0, 1, 0, 1, 1, 1, 0, 0, 1]
def fm_tab3 : List Int32 := [0, 0, 1, 1, 1, 0, 0, 0, 1, 1, 0, 1, 1, 1, 0, 2, 2, 2, 2, 0]
def fm_tab4 : List Int32 := [0, 0, 1, 1, 1, 0, 0, 0, 1, 1, 0, 1, 1, 1, 0, 2, 2, 0, 0, 0]
def fm_tabs : List (Nat × String × List Int32) := [(1, "SIZES", fm_tab0), (2, "TAKES", fm_tab1), (3, "GIVES", fm_tab2), (4, "LOWER", fm_tab3), (5, "UPPER", fm_tab4)]
/-- what lies outside: links across the nest, classes of arrays, the tables of the processor -/
def fm_EX (b : Nat) (x : Nat → Nat) (U : State) : Prop :=
  (∀ q ∈ fm_nest, va_Nw (.methodLinkNest q.1 q.2.1 q.2.2.1 q.2.2.2) U) ∧ (∀ C ∈ ["AgentNet$Script", "AgentNet$Site", "AgentNet$Message", "AgentNet$Traveller"], va_AO C U) ∧ (Cond.arrayOver (.array .int)).before #[] U = true ∧
  (∀ q ∈ fm_tabs, va_Z "AgentNet$Processor" q.2.1 "[I" (.ref (x q.1)) (fm_A b) U U.heap ∧ va_T .int (x q.1) 20 (fun j => .int (q.2.2.getD j 0)) (fm_A b) U U.heap) ∧ fx_TX b U
theorem fm_EX_st (b : Nat) (x : Nat → Nat) : fm_St b (fm_EX b x) := by
  intro u U hW hk h
  refine ⟨fun q hq => va_Nw.warmM hW (h.1 q hq), fun C hC => va_AO.moved hW.alike (h.2.1 C hC), over_moved hW.alike h.2.2.1, fun q hq => ?_, fx_TX.st b u U hW hk h.2.2.2.2⟩
  obtain ⟨h1, h2⟩ := h.2.2.2.1 q hq
  exact ⟨(va_Z.moved hW.alike h1).kept hk, (va_T.moved hW.alike h2).kept hk⟩
