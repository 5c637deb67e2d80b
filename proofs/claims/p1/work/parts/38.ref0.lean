theorem qs_Fr_runAlone : Cond.selects "AgentNet$FreeRun" y_Fr_runAlone y_Fr_runAlone ∈ fm_T0 := List.mem_filter.mpr ⟨List.mem_append_left _ (List.mem_map.mpr ⟨(y_Fr_runAlone, 5), (List.mem_append_left _ (List.mem_of_getElem? (i := 1) rfl)), rfl⟩), rfl⟩
theorem qs_Pr_read : Cond.selects "AgentNet$Processor" y_Pr_read y_Pr_read ∈ fm_T0 := List.mem_filter.mpr ⟨List.mem_append_left _ (List.mem_map.mpr ⟨(y_Pr_read, 6), (List.mem_append_left _ (List.mem_of_getElem? (i := 2) rfl)), rfl⟩), rfl⟩
theorem qs_Pr_takesFit : Cond.selects "AgentNet$Processor" y_Pr_takesFit y_Pr_takesFit ∈ fm_T0 := List.mem_filter.mpr ⟨List.mem_append_left _ (List.mem_map.mpr ⟨(y_Pr_takesFit, 6), (List.mem_append_left _ (List.mem_of_getElem? (i := 3) rfl)), rfl⟩), rfl⟩
theorem qs_Pr_boundsFit : Cond.selects "AgentNet$Processor" y_Pr_boundsFit y_Pr_boundsFit ∈ fm_T0 := List.mem_filter.mpr ⟨List.mem_append_left _ (List.mem_map.mpr ⟨(y_Pr_boundsFit, 6), (List.mem_append_left _ (List.mem_of_getElem? (i := 4) rfl)), rfl⟩), rfl⟩
theorem qs_Pr_doPairs : Cond.selects "AgentNet$Processor" y_Pr_doPairs y_Pr_doPairs ∈ fm_T0 := List.mem_filter.mpr ⟨List.mem_append_left _ (List.mem_map.mpr ⟨(y_Pr_doPairs, 6), (List.mem_append_left _ (List.mem_of_getElem? (i := 5) rfl)), rfl⟩), rfl⟩
theorem qs_Pr_doPlain : Cond.selects "AgentNet$Processor" y_Pr_doPlain y_Pr_doPlain ∈ fm_T0 := List.mem_filter.mpr ⟨List.mem_append_left _ (List.mem_map.mpr ⟨(y_Pr_doPlain, 6), (List.mem_append_left _ (List.mem_of_getElem? (i := 6) rfl)), rfl⟩), rfl⟩
theorem qs_Pr_say : Cond.selects "AgentNet$Processor" y_Pr_say y_Pr_say ∈ fm_T0 := List.mem_filter.mpr ⟨List.mem_append_left _ (List.mem_map.mpr ⟨(y_Pr_say, 6), (List.mem_append_left _ (List.mem_of_getElem? (i := 7) rfl)), rfl⟩), rfl⟩
theorem qs_Pr_go : Cond.selects "AgentNet$Processor" y_Pr_go y_Pr_go ∈ fm_T0 := List.mem_filter.mpr ⟨List.mem_append_left _ (List.mem_map.mpr ⟨(y_Pr_go, 6), (List.mem_append_left _ (List.mem_of_getElem? (i := 8) rfl)), rfl⟩), rfl⟩
theorem qs_Pr_divide : Cond.selects "AgentNet$Processor" y_Pr_divide y_Pr_divide ∈ fm_T0 := List.mem_filter.mpr ⟨List.mem_append_left _ (List.mem_map.mpr ⟨(y_Pr_divide, 6), (List.mem_append_left _ (List.mem_of_getElem? (i := 9) rfl)), rfl⟩), rfl⟩
theorem qs_Nu_renamed : Cond.selects "AgentNet$Numbering" y_Nu_renamed y_Nu_renamed ∈ fm_T0 := List.mem_filter.mpr ⟨List.mem_append_left _ (List.mem_map.mpr ⟨(y_Nu_renamed, 5), (List.mem_append_left _ (List.mem_of_getElem? (i := 10) rfl)), rfl⟩), rfl⟩
theorem qs_An_round : Cond.selects "AgentNet" y_An_round y_An_round ∈ fm_T0 := List.mem_filter.mpr ⟨List.mem_append_left _ (List.mem_map.mpr ⟨(y_An_round, 8), (List.mem_append_left _ (List.mem_of_getElem? (i := 11) rfl)), rfl⟩), rfl⟩
theorem qs_Ms_put : Cond.selects "AgentNet$Message" y_Ms_put y_Ms_put ∈ fm_T0 := List.mem_filter.mpr ⟨List.mem_append_left _ (List.mem_map.mpr ⟨(y_Ms_put, 8), (List.mem_append_left _ (List.mem_of_getElem? (i := 12) rfl)), rfl⟩), rfl⟩
theorem qs_Ms_putValue : Cond.selects "AgentNet$Message" y_Ms_putValue y_Ms_putValue ∈ fm_T0 := List.mem_filter.mpr ⟨List.mem_append_left _ (List.mem_map.mpr ⟨(y_Ms_putValue, 8), (List.mem_append_left _ (List.mem_of_getElem? (i := 13) rfl)), rfl⟩), rfl⟩
theorem qs_Ms_take : Cond.selects "AgentNet$Message" y_Ms_take y_Ms_take ∈ fm_T0 := List.mem_filter.mpr ⟨List.mem_append_left _ (List.mem_map.mpr ⟨(y_Ms_take, 8), (List.mem_append_left _ (List.mem_of_getElem? (i := 14) rfl)), rfl⟩), rfl⟩
theorem qs_Ms_takeValue : Cond.selects "AgentNet$Message" y_Ms_takeValue y_Ms_takeValue ∈ fm_T0 := List.mem_filter.mpr ⟨List.mem_append_left _ (List.mem_map.mpr ⟨(y_Ms_takeValue, 8), (List.mem_append_left _ (List.mem_of_getElem? (i := 15) rfl)), rfl⟩), rfl⟩
theorem qs_Mo_forget : Cond.selects "AgentNetModel" y_Mo_forget y_Mo_forget ∈ fm_T0 := List.mem_filter.mpr ⟨List.mem_append_left _ (List.mem_map.mpr ⟨(y_Mo_forget, 51), (List.mem_append_right _ (List.mem_append_left _ (List.mem_of_getElem? (i := 0) rfl))), rfl⟩), rfl⟩
theorem qs_Mo_refuse : Cond.selects "AgentNetModel" y_Mo_refuse y_Mo_refuse ∈ fm_T0 := List.mem_filter.mpr ⟨List.mem_append_left _ (List.mem_map.mpr ⟨(y_Mo_refuse, 51), (List.mem_append_right _ (List.mem_append_left _ (List.mem_of_getElem? (i := 1) rfl))), rfl⟩), rfl⟩
theorem qs_Mo_fresh : Cond.selects "AgentNetModel" y_Mo_fresh y_Mo_fresh ∈ fm_T0 := List.mem_filter.mpr ⟨List.mem_append_left _ (List.mem_map.mpr ⟨(y_Mo_fresh, 51), (List.mem_append_right _ (List.mem_append_left _ (List.mem_of_getElem? (i := 2) rfl))), rfl⟩), rfl⟩
theorem qs_Mo_arriveAt : Cond.selects "AgentNetModel" y_Mo_arriveAt y_Mo_arriveAt ∈ fm_T0 := List.mem_filter.mpr ⟨List.mem_append_left _ (List.mem_map.mpr ⟨(y_Mo_arriveAt, 51), (List.mem_append_right _ (List.mem_append_left _ (List.mem_of_getElem? (i := 3) rfl))), rfl⟩), rfl⟩
theorem qs_Mo_wrongAt : Cond.selects "AgentNetModel" y_Mo_wrongAt y_Mo_wrongAt ∈ fm_T0 := List.mem_filter.mpr ⟨List.mem_append_left _ (List.mem_map.mpr ⟨(y_Mo_wrongAt, 51), (List.mem_append_right _ (List.mem_append_left _ (List.mem_of_getElem? (i := 4) rfl))), rfl⟩), rfl⟩
theorem qs_Mo_work : Cond.selects "AgentNetModel" y_Mo_work y_Mo_work ∈ fm_T0 := List.mem_filter.mpr ⟨List.mem_append_left _ (List.mem_map.mpr ⟨(y_Mo_work, 51), (List.mem_append_right _ (List.mem_append_left _ (List.mem_of_getElem? (i := 5) rfl))), rfl⟩), rfl⟩
theorem qs_Mo_isFit : Cond.selects "AgentNetModel" y_Mo_isFit y_Mo_isFit ∈ fm_T0 := List.mem_filter.mpr ⟨List.mem_append_left _ (List.mem_map.mpr ⟨(y_Mo_isFit, 51), (List.mem_append_right _ (List.mem_append_left _ (List.mem_of_getElem? (i := 6) rfl))), rfl⟩), rfl⟩
theorem qs_Mo_isInt : Cond.selects "AgentNetModel" y_Mo_isInt y_Mo_isInt ∈ fm_T0 := List.mem_filter.mpr ⟨List.mem_append_left _ (List.mem_map.mpr ⟨(y_Mo_isInt, 51), (List.mem_append_right _ (List.mem_append_left _ (List.mem_of_getElem? (i := 7) rfl))), rfl⟩), rfl⟩
theorem qs_Mo_top : Cond.selects "AgentNetModel" y_Mo_top y_Mo_top ∈ fm_T0 := List.mem_filter.mpr ⟨List.mem_append_left _ (List.mem_map.mpr ⟨(y_Mo_top, 51), (List.mem_append_right _ (List.mem_append_left _ (List.mem_of_getElem? (i := 8) rfl))), rfl⟩), rfl⟩
theorem qs_Mo_isUpTo : Cond.selects "AgentNetModel" y_Mo_isUpTo y_Mo_isUpTo ∈ fm_T0 := List.mem_filter.mpr ⟨List.mem_append_left _ (List.mem_map.mpr ⟨(y_Mo_isUpTo, 51), (List.mem_append_right _ (List.mem_append_left _ (List.mem_of_getElem? (i := 9) rfl))), rfl⟩), rfl⟩
theorem qs_Mo_reach : Cond.selects "AgentNetModel" y_Mo_reach y_Mo_reach ∈ fm_T0 := List.mem_filter.mpr ⟨List.mem_append_left _ (List.mem_map.mpr ⟨(y_Mo_reach, 51), (List.mem_append_right _ (List.mem_append_left _ (List.mem_of_getElem? (i := 10) rfl))), rfl⟩), rfl⟩
theorem qs_Mo_meet : Cond.selects "AgentNetModel" y_Mo_meet y_Mo_meet ∈ fm_T0 := List.mem_filter.mpr ⟨List.mem_append_left _ (List.mem_map.mpr ⟨(y_Mo_meet, 51), (List.mem_append_right _ (List.mem_append_left _ (List.mem_of_getElem? (i := 11) rfl))), rfl⟩), rfl⟩
theorem qs_Mo_perform : Cond.selects "AgentNetModel" y_Mo_perform y_Mo_perform ∈ fm_T0 := List.mem_filter.mpr ⟨List.mem_append_left _ (List.mem_map.mpr ⟨(y_Mo_perform, 51), (List.mem_append_right _ (List.mem_append_left _ (List.mem_of_getElem? (i := 12) rfl))), rfl⟩), rfl⟩
theorem qs_Mo_push : Cond.selects "AgentNetModel" y_Mo_push y_Mo_push ∈ fm_T0 := List.mem_filter.mpr ⟨List.mem_append_left _ (List.mem_map.mpr ⟨(y_Mo_push, 51), (List.mem_append_right _ (List.mem_append_left _ (List.mem_of_getElem? (i := 13) rfl))), rfl⟩), rfl⟩
theorem qs_Mo_compute : Cond.selects "AgentNetModel" y_Mo_compute y_Mo_compute ∈ fm_T0 := List.mem_filter.mpr ⟨List.mem_append_left _ (List.mem_map.mpr ⟨(y_Mo_compute, 51), (List.mem_append_right _ (List.mem_append_left _ (List.mem_of_getElem? (i := 14) rfl))), rfl⟩), rfl⟩
theorem qs_Mo_pop : Cond.selects "AgentNetModel" y_Mo_pop y_Mo_pop ∈ fm_T0 := List.mem_filter.mpr ⟨List.mem_append_left _ (List.mem_map.mpr ⟨(y_Mo_pop, 51), (List.mem_append_right _ (List.mem_append_left _ (List.mem_of_getElem? (i := 15) rfl))), rfl⟩), rfl⟩
theorem qs_Mo_speak : Cond.selects "AgentNetModel" y_Mo_speak y_Mo_speak ∈ fm_T0 := List.mem_filter.mpr ⟨List.mem_append_left _ (List.mem_map.mpr ⟨(y_Mo_speak, 51), (List.mem_append_right _ (List.mem_append_right _ (List.mem_append_left _ (List.mem_of_getElem? (i := 0) rfl)))), rfl⟩), rfl⟩
theorem qs_Mo_travel : Cond.selects "AgentNetModel" y_Mo_travel y_Mo_travel ∈ fm_T0 := List.mem_filter.mpr ⟨List.mem_append_left _ (List.mem_map.mpr ⟨(y_Mo_travel, 51), (List.mem_append_right _ (List.mem_append_right _ (List.mem_append_left _ (List.mem_of_getElem? (i := 1) rfl)))), rfl⟩), rfl⟩
theorem qs_Mo_cloning : Cond.selects "AgentNetModel" y_Mo_cloning y_Mo_cloning ∈ fm_T0 := List.mem_filter.mpr ⟨List.mem_append_left _ (List.mem_map.mpr ⟨(y_Mo_cloning, 51), (List.mem_append_right _ (List.mem_append_right _ (List.mem_append_left _ (List.mem_of_getElem? (i := 2) rfl)))), rfl⟩), rfl⟩
theorem qs_Mo_bear : Cond.selects "AgentNetModel" y_Mo_bear y_Mo_bear ∈ fm_T0 := List.mem_filter.mpr ⟨List.mem_append_left _ (List.mem_map.mpr ⟨(y_Mo_bear, 51), (List.mem_append_right _ (List.mem_append_right _ (List.mem_append_left _ (List.mem_of_getElem? (i := 3) rfl)))), rfl⟩), rfl⟩
theorem qs_Mo_moveAgent : Cond.selects "AgentNetModel" y_Mo_moveAgent y_Mo_moveAgent ∈ fm_T0 := List.mem_filter.mpr ⟨List.mem_append_left _ (List.mem_map.mpr ⟨(y_Mo_moveAgent, 51), (List.mem_append_right _ (List.mem_append_right _ (List.mem_append_left _ (List.mem_of_getElem? (i := 4) rfl)))), rfl⟩), rfl⟩
theorem qs_Mo_newPair : Cond.selects "AgentNetModel" y_Mo_newPair y_Mo_newPair ∈ fm_T0 := List.mem_filter.mpr ⟨List.mem_append_left _ (List.mem_map.mpr ⟨(y_Mo_newPair, 51), (List.mem_append_right _ (List.mem_append_right _ (List.mem_append_left _ (List.mem_of_getElem? (i := 5) rfl)))), rfl⟩), rfl⟩
theorem qs_Mo_tidy : Cond.selects "AgentNetModel" y_Mo_tidy y_Mo_tidy ∈ fm_T0 := List.mem_filter.mpr ⟨List.mem_append_left _ (List.mem_map.mpr ⟨(y_Mo_tidy, 51), (List.mem_append_right _ (List.mem_append_right _ (List.mem_append_left _ (List.mem_of_getElem? (i := 6) rfl)))), rfl⟩), rfl⟩
theorem qs_Mo_renamed : Cond.selects "AgentNetModel" y_Mo_renamed y_Mo_renamed ∈ fm_T0 := List.mem_filter.mpr ⟨List.mem_append_left _ (List.mem_map.mpr ⟨(y_Mo_renamed, 51), (List.mem_append_right _ (List.mem_append_right _ (List.mem_append_left _ (List.mem_of_getElem? (i := 7) rfl)))), rfl⟩), rfl⟩
theorem qs_Mo_put : Cond.selects "AgentNetModel" y_Mo_put y_Mo_put ∈ fm_T0 := List.mem_filter.mpr ⟨List.mem_append_left _ (List.mem_map.mpr ⟨(y_Mo_put, 51), (List.mem_append_right _ (List.mem_append_right _ (List.mem_append_left _ (List.mem_of_getElem? (i := 8) rfl)))), rfl⟩), rfl⟩
theorem qs_Mo_compare : Cond.selects "AgentNetModel" y_Mo_compare y_Mo_compare ∈ fm_T0 := List.mem_filter.mpr ⟨List.mem_append_left _ (List.mem_map.mpr ⟨(y_Mo_compare, 51), (List.mem_append_right _ (List.mem_append_right _ (List.mem_append_left _ (List.mem_of_getElem? (i := 9) rfl)))), rfl⟩), rfl⟩
theorem qs_Mo_post : Cond.selects "AgentNetModel" y_Mo_post y_Mo_post ∈ fm_T0 := List.mem_filter.mpr ⟨List.mem_append_left _ (List.mem_map.mpr ⟨(y_Mo_post, 51), (List.mem_append_right _ (List.mem_append_right _ (List.mem_append_left _ (List.mem_of_getElem? (i := 10) rfl)))), rfl⟩), rfl⟩
theorem qs_Mo_pack : Cond.selects "AgentNetModel" y_Mo_pack y_Mo_pack ∈ fm_T0 := List.mem_filter.mpr ⟨List.mem_append_left _ (List.mem_map.mpr ⟨(y_Mo_pack, 51), (List.mem_append_right _ (List.mem_append_right _ (List.mem_append_left _ (List.mem_of_getElem? (i := 11) rfl)))), rfl⟩), rfl⟩
theorem qs_Mo_say : Cond.selects "AgentNetModel" y_Mo_say y_Mo_say ∈ fm_T0 := List.mem_filter.mpr ⟨List.mem_append_left _ (List.mem_map.mpr ⟨(y_Mo_say, 51), (List.mem_append_right _ (List.mem_append_right _ (List.mem_append_left _ (List.mem_of_getElem? (i := 12) rfl)))), rfl⟩), rfl⟩
theorem qs_Mo_sayValue : Cond.selects "AgentNetModel" y_Mo_sayValue y_Mo_sayValue ∈ fm_T0 := List.mem_filter.mpr ⟨List.mem_append_left _ (List.mem_map.mpr ⟨(y_Mo_sayValue, 51), (List.mem_append_right _ (List.mem_append_right _ (List.mem_append_left _ (List.mem_of_getElem? (i := 13) rfl)))), rfl⟩), rfl⟩
theorem qs_Mo_moveMemory : Cond.selects "AgentNetModel" y_Mo_moveMemory y_Mo_moveMemory ∈ fm_T0 := List.mem_filter.mpr ⟨List.mem_append_left _ (List.mem_map.mpr ⟨(y_Mo_moveMemory, 51), (List.mem_append_right _ (List.mem_append_right _ (List.mem_append_left _ (List.mem_of_getElem? (i := 14) rfl)))), rfl⟩), rfl⟩
theorem qs_Mo_seal : Cond.selects "AgentNetModel" y_Mo_seal y_Mo_seal ∈ fm_T0 := List.mem_filter.mpr ⟨List.mem_append_left _ (List.mem_map.mpr ⟨(y_Mo_seal, 51), (List.mem_append_right _ (List.mem_append_right _ (List.mem_append_left _ (List.mem_of_getElem? (i := 15) rfl)))), rfl⟩), rfl⟩
theorem qs_Mo_copyMessage : Cond.selects "AgentNetModel" y_Mo_copyMessage y_Mo_copyMessage ∈ fm_T0 := List.mem_filter.mpr ⟨List.mem_append_left _ (List.mem_map.mpr ⟨(y_Mo_copyMessage, 51), (List.mem_append_right _ (List.mem_append_right _ (List.mem_append_right _ (List.mem_of_getElem? (i := 0) rfl)))), rfl⟩), rfl⟩
theorem qs_Mo_deliver : Cond.selects "AgentNetModel" y_Mo_deliver y_Mo_deliver ∈ fm_T0 := List.mem_filter.mpr ⟨List.mem_append_left _ (List.mem_map.mpr ⟨(y_Mo_deliver, 51), (List.mem_append_right _ (List.mem_append_right _ (List.mem_append_right _ (List.mem_of_getElem? (i := 1) rfl)))), rfl⟩), rfl⟩
theorem qs_Mo_unpack : Cond.selects "AgentNetModel" y_Mo_unpack y_Mo_unpack ∈ fm_T0 := List.mem_filter.mpr ⟨List.mem_append_left _ (List.mem_map.mpr ⟨(y_Mo_unpack, 51), (List.mem_append_right _ (List.mem_append_right _ (List.mem_append_right _ (List.mem_of_getElem? (i := 2) rfl)))), rfl⟩), rfl⟩
theorem qs_Mo_hear : Cond.selects "AgentNetModel" y_Mo_hear y_Mo_hear ∈ fm_T0 := List.mem_filter.mpr ⟨List.mem_append_left _ (List.mem_map.mpr ⟨(y_Mo_hear, 51), (List.mem_append_right _ (List.mem_append_right _ (List.mem_append_right _ (List.mem_of_getElem? (i := 3) rfl)))), rfl⟩), rfl⟩
theorem qs_Mo_hearValue : Cond.selects "AgentNetModel" y_Mo_hearValue y_Mo_hearValue ∈ fm_T0 := List.mem_filter.mpr ⟨List.mem_append_left _ (List.mem_map.mpr ⟨(y_Mo_hearValue, 51), (List.mem_append_right _ (List.mem_append_right _ (List.mem_append_right _ (List.mem_of_getElem? (i := 4) rfl)))), rfl⟩), rfl⟩
theorem qs_Mo_runAlone : Cond.selects "AgentNetModel" y_Mo_runAlone y_Mo_runAlone ∈ fm_T0 := List.mem_filter.mpr ⟨List.mem_append_left _ (List.mem_map.mpr ⟨(y_Mo_runAlone, 51), (List.mem_append_right _ (List.mem_append_right _ (List.mem_append_right _ (List.mem_of_getElem? (i := 5) rfl)))), rfl⟩), rfl⟩
theorem qs_Mo_runOn : Cond.selects "AgentNetModel" y_Mo_runOn y_Mo_runOn ∈ fm_T0 := List.mem_filter.mpr ⟨List.mem_append_left _ (List.mem_map.mpr ⟨(y_Mo_runOn, 51), (List.mem_append_right _ (List.mem_append_right _ (List.mem_append_right _ (List.mem_of_getElem? (i := 6) rfl)))), rfl⟩), rfl⟩
/-! THE REFERENCE: where its arrays lie -/
def fm_rp : List (Nat × Nat) := [(1, 587), (2, 588), (3, 589), (5, 590), (6, 591), (7, 592), (8, 593), (9, 594), (10, 595), (11, 596), (12, 597), (13, 598), (14, 599), (15, 600), (16, 601), (17, 602), (18, 603), (19, 604), (20, 605), (21, 606), (22, 607), (23, 608), (24, 609), (25, 610), (26, 611), (27, 612), (28, 613), (29, 614), (30, 615), (31, 616), (33, 617), (34, 618), (35, 619), (36, 620), (38, 621), (39, 622), (40, 623), (41, 624), (42, 625), (43, 626), (44, 627), (49, 628)]
def fm_RP (M : fm_M) : Prop := ∀ q ∈ fm_rp, M.2.2 586 q.1 = some q.2
theorem rp_bytes {M : fm_M} (h : fm_RP M) : M.2.2 586 1 = some 587 := h (1, 587) (List.mem_of_getElem? (i := 0) rfl)
theorem rp_lengths {M : fm_M} (h : fm_RP M) : M.2.2 586 2 = some 588 := h (2, 588) (List.mem_of_getElem? (i := 1) rfl)
theorem rp_tables {M : fm_M} (h : fm_RP M) : M.2.2 586 3 = some 589 := h (3, 589) (List.mem_of_getElem? (i := 2) rfl)
theorem rp_home {M : fm_M} (h : fm_RP M) : M.2.2 586 5 = some 590 := h (5, 590) (List.mem_of_getElem? (i := 3) rfl)
theorem rp_rule {M : fm_M} (h : fm_RP M) : M.2.2 586 6 = some 591 := h (6, 591) (List.mem_of_getElem? (i := 4) rfl)
theorem rp_purse {M : fm_M} (h : fm_RP M) : M.2.2 586 7 = some 592 := h (7, 592) (List.mem_of_getElem? (i := 5) rfl)
theorem rp_count {M : fm_M} (h : fm_RP M) : M.2.2 586 8 = some 593 := h (8, 593) (List.mem_of_getElem? (i := 6) rfl)
theorem rp_freed {M : fm_M} (h : fm_RP M) : M.2.2 586 9 = some 594 := h (9, 594) (List.mem_of_getElem? (i := 7) rfl)
theorem rp_up {M : fm_M} (h : fm_RP M) : M.2.2 586 10 = some 595 := h (10, 595) (List.mem_of_getElem? (i := 8) rfl)
theorem rp_left {M : fm_M} (h : fm_RP M) : M.2.2 586 11 = some 596 := h (11, 596) (List.mem_of_getElem? (i := 9) rfl)
theorem rp_slot {M : fm_M} (h : fm_RP M) : M.2.2 586 12 = some 597 := h (12, 597) (List.mem_of_getElem? (i := 10) rfl)
theorem rp_goal {M : fm_M} (h : fm_RP M) : M.2.2 586 13 = some 598 := h (13, 598) (List.mem_of_getElem? (i := 11) rfl)
theorem rp_known {M : fm_M} (h : fm_RP M) : M.2.2 586 14 = some 599 := h (14, 599) (List.mem_of_getElem? (i := 12) rfl)
theorem rp_owed {M : fm_M} (h : fm_RP M) : M.2.2 586 15 = some 600 := h (15, 600) (List.mem_of_getElem? (i := 13) rfl)
theorem rp_note {M : fm_M} (h : fm_RP M) : M.2.2 586 16 = some 601 := h (16, 601) (List.mem_of_getElem? (i := 14) rfl)
theorem rp_told {M : fm_M} (h : fm_RP M) : M.2.2 586 17 = some 602 := h (17, 602) (List.mem_of_getElem? (i := 15) rfl)
theorem rp_words {M : fm_M} (h : fm_RP M) : M.2.2 586 18 = some 603 := h (18, 603) (List.mem_of_getElem? (i := 16) rfl)
theorem rp_turn {M : fm_M} (h : fm_RP M) : M.2.2 586 19 = some 604 := h (19, 604) (List.mem_of_getElem? (i := 17) rfl)
theorem rp_program {M : fm_M} (h : fm_RP M) : M.2.2 586 20 = some 605 := h (20, 605) (List.mem_of_getElem? (i := 18) rfl)
theorem rp_place {M : fm_M} (h : fm_RP M) : M.2.2 586 21 = some 606 := h (21, 606) (List.mem_of_getElem? (i := 19) rfl)
theorem rp_fuel {M : fm_M} (h : fm_RP M) : M.2.2 586 22 = some 607 := h (22, 607) (List.mem_of_getElem? (i := 20) rfl)
theorem rp_hops {M : fm_M} (h : fm_RP M) : M.2.2 586 23 = some 608 := h (23, 608) (List.mem_of_getElem? (i := 21) rfl)
theorem rp_said {M : fm_M} (h : fm_RP M) : M.2.2 586 24 = some 609 := h (24, 609) (List.mem_of_getElem? (i := 22) rfl)
theorem rp_wait {M : fm_M} (h : fm_RP M) : M.2.2 586 25 = some 610 := h (25, 610) (List.mem_of_getElem? (i := 23) rfl)
theorem rp_cloned {M : fm_M} (h : fm_RP M) : M.2.2 586 26 = some 611 := h (26, 611) (List.mem_of_getElem? (i := 24) rfl)
theorem rp_size {M : fm_M} (h : fm_RP M) : M.2.2 586 27 = some 612 := h (27, 612) (List.mem_of_getElem? (i := 25) rfl)
theorem rp_stack {M : fm_M} (h : fm_RP M) : M.2.2 586 28 = some 613 := h (28, 613) (List.mem_of_getElem? (i := 26) rfl)
theorem rp_pairs {M : fm_M} (h : fm_RP M) : M.2.2 586 29 = some 614 := h (29, 614) (List.mem_of_getElem? (i := 27) rfl)
theorem rp_first {M : fm_M} (h : fm_RP M) : M.2.2 586 30 = some 615 := h (30, 615) (List.mem_of_getElem? (i := 28) rfl)
theorem rp_second {M : fm_M} (h : fm_RP M) : M.2.2 586 31 = some 616 := h (31, 616) (List.mem_of_getElem? (i := 29) rfl)
theorem rp_order {M : fm_M} (h : fm_RP M) : M.2.2 586 33 = some 617 := h (33, 617) (List.mem_of_getElem? (i := 30) rfl)
theorem rp_rank {M : fm_M} (h : fm_RP M) : M.2.2 586 34 = some 618 := h (34, 618) (List.mem_of_getElem? (i := 31) rfl)
theorem rp_heads {M : fm_M} (h : fm_RP M) : M.2.2 586 35 = some 619 := h (35, 619) (List.mem_of_getElem? (i := 32) rfl)
theorem rp_tails {M : fm_M} (h : fm_RP M) : M.2.2 586 36 = some 620 := h (36, 620) (List.mem_of_getElem? (i := 33) rfl)
theorem rp_receipt {M : fm_M} (h : fm_RP M) : M.2.2 586 38 = some 621 := h (38, 621) (List.mem_of_getElem? (i := 34) rfl)
theorem rp_who {M : fm_M} (h : fm_RP M) : M.2.2 586 39 = some 622 := h (39, 622) (List.mem_of_getElem? (i := 35) rfl)
theorem rp_far {M : fm_M} (h : fm_RP M) : M.2.2 586 40 = some 623 := h (40, 623) (List.mem_of_getElem? (i := 36) rfl)
theorem rp_from {M : fm_M} (h : fm_RP M) : M.2.2 586 41 = some 624 := h (41, 624) (List.mem_of_getElem? (i := 37) rfl)
theorem rp_to {M : fm_M} (h : fm_RP M) : M.2.2 586 42 = some 625 := h (42, 625) (List.mem_of_getElem? (i := 38) rfl)
theorem rp_long1 {M : fm_M} (h : fm_RP M) : M.2.2 586 43 = some 626 := h (43, 626) (List.mem_of_getElem? (i := 39) rfl)
theorem rp_image {M : fm_M} (h : fm_RP M) : M.2.2 586 44 = some 627 := h (44, 627) (List.mem_of_getElem? (i := 40) rfl)
theorem rp_freeWords {M : fm_M} (h : fm_RP M) : M.2.2 586 49 = some 628 := h (49, 628) (List.mem_of_getElem? (i := 41) rfl)
def m_rng (f : Nat → Int32) (lo i : Nat) (v : Int32) : Nat → Int32 := fun j => if lo ≤ j ∧ j < lo + i then v else f j
theorem m_rng_0 (f : Nat → Int32) (lo : Nat) (v : Int32) : m_rng f lo 0 v = f := by
  funext j
  unfold m_rng
  rw [if_neg (by omega)]
theorem m_rng_s (f : Nat → Int32) (lo i : Nat) (v : Int32) : va_up (m_rng f lo i v) (lo + i) v = m_rng f lo (i + 1) v := by
  funext j
  unfold m_rng va_up
  by_cases h : j = lo + i
  · rw [if_pos h, if_pos (by omega)]
  · rw [if_neg h]
    show (if lo ≤ j ∧ j < lo + i then v else f j) = _
    by_cases h2 : lo ≤ j ∧ j < lo + i
    · rw [if_pos h2, if_pos (by omega)]
    · rw [if_neg h2, if_neg (by omega)]
def m_fgt (M : fm_M) (lo i : Nat) : fm_M := (fun o => if o = 597 then m_rng (M.1 597) lo i (nI 0) else if o = 599 then m_rng (M.1 599) lo i (-1) else if o = 600 then m_rng (M.1 600) lo i (-1) else if o = 601 then m_rng (M.1 601) lo i (-1) else if o = 602 then m_rng (M.1 602) lo i (nI 0) else M.1 o, M.2.1, M.2.2)
theorem m_fgt_0 (M : fm_M) (lo : Nat) : m_fgt M lo 0 = M := by
  have h : (fun o => if o = 597 then m_rng (M.1 597) lo 0 (nI 0) else if o = 599 then m_rng (M.1 599) lo 0 (-1) else if o = 600 then m_rng (M.1 600) lo 0 (-1) else if o = 601 then m_rng (M.1 601) lo 0 (-1) else if o = 602 then m_rng (M.1 602) lo 0 (nI 0) else M.1 o) = M.1 := by
    funext o
    simp only [m_rng_0]
    by_cases h1 : o = 597
    · rw [if_pos h1, h1]
    · rw [if_neg h1]
      by_cases h2 : o = 599
      · rw [if_pos h2, h2]
      · rw [if_neg h2]
        by_cases h3 : o = 600
        · rw [if_pos h3, h3]
        · rw [if_neg h3]
          by_cases h4 : o = 601
          · rw [if_pos h4, h4]
          · rw [if_neg h4]
            by_cases h5 : o = 602
            · rw [if_pos h5, h5]
            · rw [if_neg h5]
  unfold m_fgt
  rw [h]
theorem m_fgt_s (M : fm_M) (lo i : Nat) : fm_put1 (fm_put1 (fm_put1 (fm_put1 (fm_put1 (m_fgt M lo i) 597 (lo + i) (nI 0)) 599 (lo + i) (-1)) 600 (lo + i) (-1)) 601 (lo + i) (-1)) 602 (lo + i) (nI 0) = m_fgt M lo (i + 1) := by
  have h : (fm_put1 (fm_put1 (fm_put1 (fm_put1 (fm_put1 (m_fgt M lo i) 597 (lo + i) (nI 0)) 599 (lo + i) (-1)) 600 (lo + i) (-1)) 601 (lo + i) (-1)) 602 (lo + i) (nI 0)).1 = (m_fgt M lo (i + 1)).1 := by
    funext o
    by_cases h1 : o = 597
    · subst h1
      simp [fm_put1, m_fgt, fm_upS, fm_upN, m_rng_s]
    · by_cases h2 : o = 599
      · subst h2
        simp [fm_put1, m_fgt, fm_upS, fm_upN, m_rng_s]
      · by_cases h3 : o = 600
        · subst h3
          simp [fm_put1, m_fgt, fm_upS, fm_upN, m_rng_s]
        · by_cases h4 : o = 601
          · subst h4
            simp [fm_put1, m_fgt, fm_upS, fm_upN, m_rng_s]
          · by_cases h5 : o = 602
            · subst h5
              simp [fm_put1, m_fgt, fm_upS, fm_upN, m_rng_s]
            · simp [fm_put1, m_fgt, va_up, h1, h2, h3, h4, h5]
  exact Prod.ext h rfl
set_option maxRecDepth 100000 in
set_option maxHeartbeats 4000000 in
theorem c_Mo_forget {l : Launch} {b : Nat} {x : Nat → Nat} {D : va_G} {dA : Nat → ClassId} {n k : Nat} {M : fm_M} (hn : 629 ≤ n) (hk : k < 12) (hR : fm_RP M) : Met l y_Mo_forget (Cond.code y_Mo_forget b_Mo_forget 3 none :: fm_T0) ({ frames := 0, cells := 0, slots := 0, locals := 0 }) (fm_Pc fm_lay fm_nf fm_fk fm_cl b x D dA (fm_tys dA) (fm_EX b x) false [.ref 586, .int (nI k)] n M) (fm_Qc fm_lay fm_nf fm_fk fm_cl b x D dA (fun r n' M' => r = none ∧ n' = n ∧ M' = m_fgt M (8 * k) 8)) 0 0 (fm_A b) := by
  refine fm_enter (by decide) (Nat.le_of_ble_eq_true rfl) ?_
  intro p e s m args below meth c hc hr hnm hex htg
  have loop : ∀ j i, i + j = 8 → fm_G p l e (headSpec (Cond.code y_Mo_forget b_Mo_forget 3 none :: fm_T0) ({ frames := 0, cells := 0, slots := 0, locals := 0 })).room s m args below meth c (MQ below (fm_Qc fm_lay fm_nf fm_fk fm_cl b x D dA (fun r n' M' => r = none ∧ n' = n ∧ M' = m_fgt M (8 * k) 8)) args s 0 0 (fm_A b)) fm_lay fm_nf fm_fk fm_cl b x D dA 3 5 [(2, .int (nI (8 * k + i))), (0, .ref 586), (1, .int (nI k))] [] n (m_fgt M (8 * k) i) (0, 0) := by
    intro j
    induction j with
    | zero =>
      intro i hi
      have hi : i = 8 := by omega
      subst hi
      refine fm_iload_n hc d_Mo_forget_5 rfl rfl ?_
      refine fm_bipush (v := nI 8) hc d_Mo_forget_6 rfl ?_
      refine fm_iload_n hc d_Mo_forget_8 rfl rfl ?_
      refine fm_imul hc d_Mo_forget_9 ?_
      refine fm_top (congrArg Value.int (pk_mul 8 k)) ?_
      refine fm_bipush (v := nI 8) hc d_Mo_forget_10 rfl ?_
      refine fm_iadd hc d_Mo_forget_12 ?_
      refine fm_top (congrArg Value.int (nI_add (8 * k) 8)) ?_
      refine fm_icmp_ge (tgt := 57) hc d_Mo_forget_13 rfl (fun h => ?_) (fun h => absurd (nI_le (Nat.le_refl _) (by omega)) h)
      exact fm_vret hc hr d_Mo_forget_57 (Nat.le_of_ble_eq_true rfl) (Nat.le_of_ble_eq_true rfl) ⟨rfl, rfl, rfl⟩
    | succ j ih =>
      intro i hi
      have hi8 : i < 8 := by omega
      refine fm_iload_n hc d_Mo_forget_5 rfl rfl ?_
      refine fm_bipush (v := nI 8) hc d_Mo_forget_6 rfl ?_
      refine fm_iload_n hc d_Mo_forget_8 rfl rfl ?_
      refine fm_imul hc d_Mo_forget_9 ?_
      refine fm_top (congrArg Value.int (pk_mul 8 k)) ?_
      refine fm_bipush (v := nI 8) hc d_Mo_forget_10 rfl ?_
      refine fm_iadd hc d_Mo_forget_12 ?_
      refine fm_top (congrArg Value.int (nI_add (8 * k) 8)) ?_
      refine fm_icmp_ge (tgt := 57) hc d_Mo_forget_13 rfl (fun h => absurd h (nI_ge (by omega) (by omega))) (fun h => ?_)
      refine fm_aload_n hc d_Mo_forget_16 rfl rfl ?_
      refine fm_getR (k := 12) (q := 597) hc K_Mo d_Mo_forget_17 q_897 rfl (by decide) (by omega) (by decide) (by decide) (by decide) rfl (rp_slot hR) ?_
      refine fm_iload_n hc d_Mo_forget_20 rfl rfl ?_
      refine fm_iconst (v := nI 0) hc d_Mo_forget_21 rfl ?_
      refine fm_iast (j := 8 * k + i) (len := 96) (v := nI 0) hc 0 d_Mo_forget_22 (by decide) (by omega) (by decide) rfl (by omega) (by decide) ?_
      refine fm_aload_n hc d_Mo_forget_23 rfl rfl ?_
      refine fm_getR (k := 14) (q := 599) hc K_Mo d_Mo_forget_24 q_899 rfl (by decide) (by omega) (by decide) (by decide) (by decide) rfl (rp_known hR) ?_
      refine fm_iload_n hc d_Mo_forget_27 rfl rfl ?_
      refine fm_iconst (v := (-1)) hc d_Mo_forget_28 rfl ?_
      refine fm_iast (j := 8 * k + i) (len := 96) (v := (-1)) hc 0 d_Mo_forget_29 (by decide) (by omega) (by decide) rfl (by omega) (by decide) ?_
      refine fm_aload_n hc d_Mo_forget_30 rfl rfl ?_
      refine fm_getR (k := 15) (q := 600) hc K_Mo d_Mo_forget_31 q_900 rfl (by decide) (by omega) (by decide) (by decide) (by decide) rfl (rp_owed hR) ?_
      refine fm_iload_n hc d_Mo_forget_34 rfl rfl ?_
      refine fm_iconst (v := (-1)) hc d_Mo_forget_35 rfl ?_
      refine fm_iast (j := 8 * k + i) (len := 96) (v := (-1)) hc 0 d_Mo_forget_36 (by decide) (by omega) (by decide) rfl (by omega) (by decide) ?_
      refine fm_aload_n hc d_Mo_forget_37 rfl rfl ?_
      refine fm_getR (k := 16) (q := 601) hc K_Mo d_Mo_forget_38 q_901 rfl (by decide) (by omega) (by decide) (by decide) (by decide) rfl (rp_note hR) ?_
      refine fm_iload_n hc d_Mo_forget_41 rfl rfl ?_
      refine fm_iconst (v := (-1)) hc d_Mo_forget_42 rfl ?_
      refine fm_iast (j := 8 * k + i) (len := 96) (v := (-1)) hc 0 d_Mo_forget_43 (by decide) (by omega) (by decide) rfl (by omega) (by decide) ?_
      refine fm_aload_n hc d_Mo_forget_44 rfl rfl ?_
      refine fm_getR (k := 17) (q := 602) hc K_Mo d_Mo_forget_45 q_902 rfl (by decide) (by omega) (by decide) (by decide) (by decide) rfl (rp_told hR) ?_
      refine fm_iload_n hc d_Mo_forget_48 rfl rfl ?_
      refine fm_iconst (v := nI 0) hc d_Mo_forget_49 rfl ?_
      refine fm_iast (j := 8 * k + i) (len := 96) (v := nI 0) hc 0 d_Mo_forget_50 (by decide) (by omega) (by decide) rfl (by omega) (by decide) ?_
      refine fm_iinc (v := nI (8 * k + (i + 1))) (lv' := [(2, .int (nI (8 * k + (i + 1)))), (0, .ref 586), (1, .int (nI k))]) hc d_Mo_forget_51 rfl (nI_1 (8 * k + i)) (by decide) rfl ?_
      refine fm_goto (tgt := 5) hc d_Mo_forget_54 rfl ?_
      exact fm_mem rfl (m_fgt_s M (8 * k) i) (ih (i + 1) (by omega))
  refine fm_bipush (v := nI 8) hc d_Mo_forget_0 rfl ?_
  refine fm_iload_n hc d_Mo_forget_2 rfl rfl ?_
  refine fm_imul hc d_Mo_forget_3 ?_
  refine fm_top (congrArg Value.int (pk_mul 8 k)) ?_
  refine fm_istore_n (lv' := [(2, .int (nI (8 * k))), (0, .ref 586), (1, .int (nI k))]) hc d_Mo_forget_4 rfl (by decide) rfl ?_
  exact fm_mem rfl (m_fgt_0 M (8 * k)).symm (loop 8 0 rfl)
