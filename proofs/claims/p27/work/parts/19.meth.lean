set_option maxRecDepth 20000
theorem tb_in : ∀ x ∈ tables_1, x ∈ lw_tbl := fun x h => List.mem_append_right _ h
theorem tb_1 {w : Cond} {i : Nat} (h : tables_1_1[i]? = some w) (hg : goodWord w = true) : w ∈ tW := List.mem_filter.mpr ⟨tb_in w (by have h := List.mem_of_getElem? h; exact List.mem_append_left _ h), hg⟩
theorem tn_1 {w : Cond} {i : Nat} (h : tables_1_1[i]? = some w) (hg : isNest w = true) : w ∈ nW := List.mem_filter.mpr ⟨tb_in w (by have h := List.mem_of_getElem? h; exact List.mem_append_left _ h), hg⟩
theorem tb_2 {w : Cond} {i : Nat} (h : tables_1_2[i]? = some w) (hg : goodWord w = true) : w ∈ tW := List.mem_filter.mpr ⟨tb_in w (by have h := List.mem_of_getElem? h; exact List.mem_append_right _ (List.mem_append_left _ h)), hg⟩
theorem tb_3 {w : Cond} {i : Nat} (h : tables_1_3[i]? = some w) (hg : goodWord w = true) : w ∈ tW := List.mem_filter.mpr ⟨tb_in w (by have h := List.mem_of_getElem? h; exact List.mem_append_right _ (List.mem_append_right _ (List.mem_append_left _ h))), hg⟩
theorem tb_4 {w : Cond} {i : Nat} (h : tables_1_4[i]? = some w) (hg : goodWord w = true) : w ∈ tW := List.mem_filter.mpr ⟨tb_in w (by have h := List.mem_of_getElem? h; exact List.mem_append_right _ (List.mem_append_right _ (List.mem_append_right _ (List.mem_append_left _ h)))), hg⟩
theorem tb_5 {w : Cond} {i : Nat} (h : tables_1_5[i]? = some w) (hg : goodWord w = true) : w ∈ tW := List.mem_filter.mpr ⟨tb_in w (by have h := List.mem_of_getElem? h; exact List.mem_append_right _ (List.mem_append_right _ (List.mem_append_right _ (List.mem_append_right _ (List.mem_append_left _ h))))), hg⟩
theorem tb_6 {w : Cond} {i : Nat} (h : tables_1_6[i]? = some w) (hg : goodWord w = true) : w ∈ tW := List.mem_filter.mpr ⟨tb_in w (by have h := List.mem_of_getElem? h; exact List.mem_append_right _ (List.mem_append_right _ (List.mem_append_right _ (List.mem_append_right _ (List.mem_append_right _ (h)))))), hg⟩
theorem kC0 : kC 0 RX0 TX0 14 := ⟨rfl, rfl, by decide, kC_in (c := 0) (by decide +kernel), tyX0_ok, nmX0, by decide +kernel, by decide +kernel, tW_d (by decide +kernel), tW_d (by decide +kernel)⟩
theorem kC1 : kC 1 RX1 TX1 5 := ⟨rfl, rfl, by decide, kC_in (c := 1) (by decide +kernel), tyX1_ok, nmX1, by decide +kernel, by decide +kernel, tW_d (by decide +kernel), tW_d (by decide +kernel)⟩
theorem kC2 : kC 2 RX2 TX2 3 := ⟨rfl, rfl, by decide, kC_in (c := 2) (by decide +kernel), tyX2_ok, nmX2, by decide +kernel, by decide +kernel, tW_d (by decide +kernel), tW_d (by decide +kernel)⟩
theorem kC3 : kC 3 RX3 TX3 14 := ⟨rfl, rfl, by decide, kC_in (c := 3) (by decide +kernel), tyX3_ok, nmX3, by decide +kernel, by decide +kernel, tW_d (by decide +kernel), tW_d (by decide +kernel)⟩
theorem kC4 : kC 4 RX4 TX4 5 := ⟨rfl, rfl, by decide, kC_in (c := 4) (by decide +kernel), tyX4_ok, nmX4, by decide +kernel, by decide +kernel, tW_d (by decide +kernel), tW_d (by decide +kernel)⟩
theorem kC5 : kC 5 RX5 TX5 10 := ⟨rfl, rfl, by decide, kC_in (c := 5) (by decide +kernel), tyX5_ok, nmX5, by decide +kernel, by decide +kernel, tW_d (by decide +kernel), tW_d (by decide +kernel)⟩
theorem kC6 : kC 6 RX6 TX6 45 := ⟨rfl, rfl, by decide, kC_in (c := 6) (by decide +kernel), tyX6_ok, nmX6, by decide +kernel, by decide +kernel, tW_d (by decide +kernel), tW_d (by decide +kernel)⟩
abbrev m_X0_init : mM := (yX0_init, cX0_init, 1, none)
abbrev m_X0_empty : mM := (yX0_empty, cX0_empty, 2, none)
abbrev m_X0_add : mM := (yX0_add, cX0_add, 3, some .int)
abbrev m_X0_has : mM := (yX0_has, cX0_has, 2, some .boolean)
abbrev m_X0_isPhase : mM := (yX0_isPhase, cX0_isPhase, 2, some .boolean)
abbrev m_X0_isSet : mM := (yX0_isSet, cX0_isSet, 2, some .boolean)
abbrev m_X0_everyone : mM := (yX0_everyone, cX0_everyone, 1, some .int)
abbrev m_X0_holds : mM := (yX0_holds, cX0_holds, 2, some .boolean)
abbrev m_X0_setRoad : mM := (yX0_setRoad, cX0_setRoad, 4, none)
abbrev m_X0_setRoads : mM := (yX0_setRoads, cX0_setRoads, 5, none)
abbrev m_X0_allRoads : mM := (yX0_allRoads, cX0_allRoads, 3, some .int)
abbrev m_X0_findLeaders : mM := (yX0_findLeaders, cX0_findLeaders, 5, some .int)
abbrev m_X0_fillReach : mM := (yX0_fillReach, cX0_fillReach, 3, none)
abbrev m_X0_allLeadBack : mM := (yX0_allLeadBack, cX0_allLeadBack, 3, some .boolean)
abbrev m_X0_tick : mM := (yX0_tick, cX0_tick, 5, none)
abbrev m_X0_wrap : mM := (yX0_wrap, cX0_wrap, 2, some .int)
abbrev m_X0_pullOn : mM := (yX0_pullOn, cX0_pullOn, 9, some .int)
abbrev m_X0_fire : mM := (yX0_fire, cX0_fire, 8, none)
abbrev m_X0_pushAt : mM := (yX0_pushAt, cX0_pushAt, 3, some .int)
abbrev m_X0_startWalk : mM := (yX0_startWalk, cX0_startWalk, 1, none)
abbrev m_X0_walk : mM := (yX0_walk, cX0_walk, 1, none)
abbrev m_X0_inStep : mM := (yX0_inStep, cX0_inStep, 5, some .boolean)
abbrev m_X0_leastArc : mM := (yX0_leastArc, cX0_leastArc, 4, some .int)
abbrev m_X0_arcFrom : mM := (yX0_arcFrom, cX0_arcFrom, 5, some .int)
abbrev m_X0_smallStates : mM := (yX0_smallStates, cX0_smallStates, 3, some .int)
abbrev m_X0_stateAfter : mM := (yX0_stateAfter, cX0_stateAfter, 4, some .int)
abbrev m_X0_stateInStep : mM := (yX0_stateInStep, cX0_stateInStep, 3, some .boolean)
abbrev m_X0_setWalker : mM := (yX0_setWalker, cX0_setWalker, 4, none)
abbrev m_X1_init : mM := (yX1_init, cX1_init, 1, none)
abbrev m_X1_follow : mM := (yX1_follow, cX1_follow, 5, none)
abbrev m_X1_makeRoom : mM := (yX1_makeRoom, cX1_makeRoom, 3, none)
abbrev m_X1_followFrom : mM := (yX1_followFrom, cX1_followFrom, 7, none)
abbrev m_X1_leastOfRound : mM := (yX1_leastOfRound, cX1_leastOfRound, 6, some .int)
abbrev m_X1_keep : mM := (yX1_keep, cX1_keep, 5, none)
abbrev m_X1_lengthOfRound : mM := (yX1_lengthOfRound, cX1_lengthOfRound, 5, some .int)
abbrev m_X1_tell : mM := (yX1_tell, cX1_tell, 4, some .int)
abbrev m_X1_statesInStep : mM := (yX1_statesInStep, cX1_statesInStep, 6, some .int)
abbrev m_X1_roundInStep : mM := (yX1_roundInStep, cX1_roundInStep, 7, some .boolean)
abbrev m_X2_init : mM := (yX2_init, cX2_init, 1, none)
abbrev m_X2_isMissing : mM := (yX2_isMissing, cX2_isMissing, 1, some .boolean)
abbrev m_X2_make : mM := (yX2_make, cX2_make, 3, none)
abbrev m_X2_hasPlaces : mM := (yX2_hasPlaces, cX2_hasPlaces, 3, some .boolean)
abbrev m_X2_at : mM := (yX2_at, cX2_at, 2, some .long)
abbrev m_X2_put : mM := (yX2_put, cX2_put, 4, none)
abbrev m_X2_cutToSort : mM := (yX2_cutToSort, cX2_cutToSort, 3, some .long)
abbrev m_X2_liesWithin : mM := (yX2_liesWithin, cX2_liesWithin, 7, some .boolean)
abbrev m_X2_copyInts : mM := (yX2_copyInts, cX2_copyInts, 4, none)
abbrev m_X3_init : mM := (yX3_init, cX3_init, 1, none)
abbrev m_X3_empty : mM := (yX3_empty, cX3_empty, 2, none)
abbrev m_X3_has : mM := (yX3_has, cX3_has, 3, some .boolean)
abbrev m_X3_place : mM := (yX3_place, cX3_place, 2, some .int)
abbrev m_X3_put : mM := (yX3_put, cX3_put, 5, none)
abbrev m_X3_remove : mM := (yX3_remove, cX3_remove, 4, some .boolean)
abbrev m_X3_join : mM := (yX3_join, cX3_join, 4, some .long)
abbrev m_X3_multiply : mM := (yX3_multiply, cX3_multiply, 8, none)
abbrev m_X3_takeBetter : mM := (yX3_takeBetter, cX3_takeBetter, 12, none)
abbrev m_X3_multiplyPower : mM := (yX3_multiplyPower, cX3_multiplyPower, 3, none)
abbrev m_X3_startRow : mM := (yX3_startRow, cX3_startRow, 2, none)
abbrev m_X3_multiplyRow : mM := (yX3_multiplyRow, cX3_multiplyRow, 6, none)
abbrev m_X3_sumOf : mM := (yX3_sumOf, cX3_sumOf, 7, some .long)
abbrev m_X3_longestSum : mM := (yX3_longestSum, cX3_longestSum, 6, some .long)
abbrev m_X3_findPace : mM := (yX3_findPace, cX3_findPace, 2, some .boolean)
abbrev m_X3_takeRounds : mM := (yX3_takeRounds, cX3_takeRounds, 5, none)
abbrev m_X3_reducePace : mM := (yX3_reducePace, cX3_reducePace, 3, none)
abbrev m_X3_shiftByPace : mM := (yX3_shiftByPace, cX3_shiftByPace, 2, none)
abbrev m_X3_traceCritical : mM := (yX3_traceCritical, cX3_traceCritical, 3, some .int)
abbrev m_X3_fillBack : mM := (yX3_fillBack, cX3_fillBack, 7, none)
abbrev m_X3_writeRound : mM := (yX3_writeRound, cX3_writeRound, 6, none)
abbrev m_X3_leastNext : mM := (yX3_leastNext, cX3_leastNext, 6, some .int)
abbrev m_X3_findAgain : mM := (yX3_findAgain, cX3_findAgain, 3, some .boolean)
abbrev m_X3_areAlike : mM := (yX3_areAlike, cX3_areAlike, 5, some .boolean)
abbrev m_X4_init : mM := (yX4_init, cX4_init, 1, none)
abbrev m_X4_start : mM := (yX4_start, cX4_start, 2, none)
abbrev m_X4_stepOf : mM := (yX4_stepOf, cX4_stepOf, 6, some .int)
abbrev m_X4_makeRoom : mM := (yX4_makeRoom, cX4_makeRoom, 2, none)
abbrev m_X4_pack : mM := (yX4_pack, cX4_pack, 9, none)
abbrev m_X4_headOfLast : mM := (yX4_headOfLast, cX4_headOfLast, 5, some .int)
abbrev m_X4_isLikeLast : mM := (yX4_isLikeLast, cX4_isLikeLast, 5, some .boolean)
abbrev m_X5_init : mM := (yX5_init, cX5_init, 2, none)
abbrev m_X5_status : mM := (yX5_status, cX5_status, 1, some .int)
abbrev m_X5_sheet : mM := (yX5_sheet, cX5_sheet, 5, some .boolean)
abbrev m_X5_write : mM := (yX5_write, cX5_write, 6, some .boolean)
abbrev m_X5_read : mM := (yX5_read, cX5_read, 4, some .long)
abbrev m_X5_pour : mM := (yX5_pour, cX5_pour, 8, some .boolean)
abbrev m_X5_ring : mM := (yX5_ring, cX5_ring, 2, some .boolean)
abbrev m_X5_beater : mM := (yX5_beater, cX5_beater, 3, some .int)
abbrev m_X5_kind : mM := (yX5_kind, cX5_kind, 3, some .boolean)
abbrev m_X5_turn : mM := (yX5_turn, cX5_turn, 3, some .boolean)
abbrev m_X5_phases : mM := (yX5_phases, cX5_phases, 3, some .boolean)
abbrev m_X5_road : mM := (yX5_road, cX5_road, 4, some .boolean)
abbrev m_X5_roads : mM := (yX5_roads, cX5_roads, 2, some .boolean)
abbrev m_X5_push : mM := (yX5_push, cX5_push, 4, some .boolean)
abbrev m_X5_clear : mM := (yX5_clear, cX5_clear, 1, some .boolean)
abbrev m_X5_go : mM := (yX5_go, cX5_go, 3, some .boolean)
abbrev m_X5_count : mM := (yX5_count, cX5_count, 2, some .int)
abbrev m_X5_beats : mM := (yX5_beats, cX5_beats, 3, some .int)
abbrev m_X5_step : mM := (yX5_step, cX5_step, 2, some .int)
abbrev m_X5_arc : mM := (yX5_arc, cX5_arc, 2, some .int)
abbrev m_X5_round : mM := (yX5_round, cX5_round, 4, some .int)
abbrev m_X5_meet : mM := (yX5_meet, cX5_meet, 3, some .int)
abbrev m_X5_ends : mM := (yX5_ends, cX5_ends, 2, some .int)
abbrev m_X5_end : mM := (yX5_end, cX5_end, 3, some .int)
abbrev m_X5_sure : mM := (yX5_sure, cX5_sure, 3, some .int)
abbrev m_X5_lead : mM := (yX5_lead, cX5_lead, 1, some .int)
abbrev m_X5_leader : mM := (yX5_leader, cX5_leader, 2, some .int)
abbrev m_X5_table : mM := (yX5_table, cX5_table, 2, some .boolean)
abbrev m_X5_span : mM := (yX5_span, cX5_span, 4, some .boolean)
abbrev m_X5_cut : mM := (yX5_cut, cX5_cut, 3, some .boolean)
abbrev m_X5_pace : mM := (yX5_pace, cX5_pace, 2, some .long)
abbrev m_X5_critical : mM := (yX5_critical, cX5_critical, 1, some .int)
abbrev m_X5_sums : mM := (yX5_sums, cX5_sums, 5, some .long)
abbrev m_X5_longest : mM := (yX5_longest, cX5_longest, 5, some .long)
abbrev m_X5_again : mM := (yX5_again, cX5_again, 2, some .int)
abbrev m_X5_out : mM := (yX5_out, cX5_out, 2, some .int)
abbrev m_X5_accept : mM := (yX5_accept, cX5_accept, 1, some .boolean)
abbrev m_X5_refuse : mM := (yX5_refuse, cX5_refuse, 2, some .boolean)
abbrev m_X5_answer : mM := (yX5_answer, cX5_answer, 2, some .int)
abbrev m_X5_lack : mM := (yX5_lack, cX5_lack, 2, some .int)
abbrev m_X5_sumOrNone : mM := (yX5_sumOrNone, cX5_sumOrNone, 3, some .long)
abbrev m_X5_sheetAt : mM := (yX5_sheetAt, cX5_sheetAt, 2, some (.object "BeatBench$Sheet"))
abbrev m_X5_isKind : mM := (yX5_isKind, cX5_isKind, 1, some .boolean)
abbrev m_X6_init : mM := (yX6_init, cX6_init, 2, none)
abbrev m_X6_status : mM := (yX6_status, cX6_status, 1, some .int)
abbrev m_X6_refuse : mM := (yX6_refuse, cX6_refuse, 2, some .int)
abbrev m_X6_no : mM := (yX6_no, cX6_no, 2, some .boolean)
abbrev m_X6_cut : mM := (yX6_cut, cX6_cut, 3, some .long)
abbrev m_X6_sheet : mM := (yX6_sheet, cX6_sheet, 5, some .boolean)
abbrev m_X6_sheeted : mM := (yX6_sheeted, cX6_sheeted, 2, some .int)
abbrev m_X6_placed : mM := (yX6_placed, cX6_placed, 4, some .int)
abbrev m_X6_write : mM := (yX6_write, cX6_write, 5, some .boolean)
abbrev m_X6_read : mM := (yX6_read, cX6_read, 3, some .long)
abbrev m_X6_pour : mM := (yX6_pour, cX6_pour, 9, some .boolean)
abbrev m_X6_ring : mM := (yX6_ring, cX6_ring, 3, some .boolean)
abbrev m_X6_clears : mM := (yX6_clears, cX6_clears, 2, none)
abbrev m_X6_isBeater : mM := (yX6_isBeater, cX6_isBeater, 2, some .boolean)
abbrev m_X6_isPhase : mM := (yX6_isPhase, cX6_isPhase, 3, some .boolean)
abbrev m_X6_beater : mM := (yX6_beater, cX6_beater, 3, some .int)
abbrev m_X6_kind : mM := (yX6_kind, cX6_kind, 3, some .boolean)
abbrev m_X6_turn : mM := (yX6_turn, cX6_turn, 3, some .boolean)
abbrev m_X6_phases : mM := (yX6_phases, cX6_phases, 3, some .boolean)
abbrev m_X6_road : mM := (yX6_road, cX6_road, 4, some .boolean)
abbrev m_X6_roads : mM := (yX6_roads, cX6_roads, 6, some .boolean)
abbrev m_X6_push : mM := (yX6_push, cX6_push, 4, some .boolean)
abbrev m_X6_clear : mM := (yX6_clear, cX6_clear, 1, some .boolean)
abbrev m_X6_pulled : mM := (yX6_pulled, cX6_pulled, 8, some .int)
abbrev m_X6_tick : mM := (yX6_tick, cX6_tick, 6, none)
abbrev m_X6_go : mM := (yX6_go, cX6_go, 4, some .boolean)
abbrev m_X6_count : mM := (yX6_count, cX6_count, 4, some .int)
abbrev m_X6_seenBy : mM := (yX6_seenBy, cX6_seenBy, 4, some .int)
abbrev m_X6_beats : mM := (yX6_beats, cX6_beats, 3, some .int)
abbrev m_X6_isSet : mM := (yX6_isSet, cX6_isSet, 2, some .boolean)
abbrev m_X6_isInStep : mM := (yX6_isInStep, cX6_isInStep, 5, some .boolean)
abbrev m_X6_step : mM := (yX6_step, cX6_step, 2, some .int)
abbrev m_X6_arc : mM := (yX6_arc, cX6_arc, 6, some .int)
abbrev m_X6_begin : mM := (yX6_begin, cX6_begin, 3, none)
abbrev m_X6_isLike : mM := (yX6_isLike, cX6_isLike, 4, some .boolean)
abbrev m_X6_rounds : mM := (yX6_rounds, cX6_rounds, 4, some .boolean)
abbrev m_X6_round : mM := (yX6_round, cX6_round, 2, some .int)
abbrev m_X6_meet : mM := (yX6_meet, cX6_meet, 5, some .int)
abbrev m_X6_states : mM := (yX6_states, cX6_states, 3, some .int)
abbrev m_X6_stateTo : mM := (yX6_stateTo, cX6_stateTo, 5, none)
abbrev m_X6_numberOf : mM := (yX6_numberOf, cX6_numberOf, 4, some .int)
abbrev m_X6_fillEnds : mM := (yX6_fillEnds, cX6_fillEnds, 6, none)
abbrev m_X6_ends : mM := (yX6_ends, cX6_ends, 4, some .int)
abbrev m_X6_end : mM := (yX6_end, cX6_end, 3, some .int)
abbrev m_X6_sure : mM := (yX6_sure, cX6_sure, 6, some .int)
abbrev m_X6_lead : mM := (yX6_lead, cX6_lead, 4, some .int)
abbrev m_X6_leader : mM := (yX6_leader, cX6_leader, 2, some .int)
abbrev m_X6_table : mM := (yX6_table, cX6_table, 3, some .boolean)
abbrev m_X6_isIn : mM := (yX6_isIn, cX6_isIn, 3, some .boolean)
abbrev m_X6_span : mM := (yX6_span, cX6_span, 4, some .boolean)
abbrev m_X6_cut_ : mM := (yX6_cut_, cX6_cut_, 3, some .boolean)
abbrev m_X6_multiply : mM := (yX6_multiply, cX6_multiply, 13, none)
abbrev m_X6_unit : mM := (yX6_unit, cX6_unit, 5, none)
abbrev m_X6_fillPowers : mM := (yX6_fillPowers, cX6_fillPowers, 4, none)
abbrev m_X6_common : mM := (yX6_common, cX6_common, 10, some .long)
abbrev m_X6_paces : mM := (yX6_paces, cX6_paces, 5, some .boolean)
abbrev m_X6_pace : mM := (yX6_pace, cX6_pace, 2, some .long)
abbrev m_X6_critical : mM := (yX6_critical, cX6_critical, 9, some .int)
abbrev m_X6_isPace : mM := (yX6_isPace, cX6_isPace, 4, some .boolean)
abbrev m_X6_goes : mM := (yX6_goes, cX6_goes, 11, some .boolean)
abbrev m_X6_sums : mM := (yX6_sums, cX6_sums, 7, some .long)
abbrev m_X6_longest : mM := (yX6_longest, cX6_longest, 8, some .long)
abbrev m_X6_again : mM := (yX6_again, cX6_again, 4, some .int)
abbrev m_X6_isAgain : mM := (yX6_isAgain, cX6_isAgain, 11, some .boolean)
abbrev m_X6_out : mM := (yX6_out, cX6_out, 2, some .int)
abbrev m_J6_numberOfTrailingZeros_0f7a4 : mM := (yJ6_numberOfTrailingZeros_0f7a4, cJ6_numberOfTrailingZeros_0f7a4, 2, some .int)
abbrev m_J6_bitCount_0f7a4 : mM := (yJ6_bitCount_0f7a4, cJ6_bitCount_0f7a4, 1, some .int)
abbrev m_J7_fill_d0a16 : mM := (yJ7_fill_d0a16, cJ7_fill_d0a16, 5, none)
abbrev m_J7_fill_53178 : mM := (yJ7_fill_53178, cJ7_fill_53178, 4, none)
abbrev m_J7_copyOf_59c91 : mM := (yJ7_copyOf_59c91, cJ7_copyOf_59c91, 3, some (.array .int))
abbrev m_J7_copyOf_c38d5 : mM := (yJ7_copyOf_c38d5, cJ7_copyOf_c38d5, 3, some (.array .long))
theorem cd_X0_init : Cond.code yX0_init cX0_init 1 (none) ∈ tW := tb_1 (i := 30) rfl rfl
theorem iM_X0_init : Cond.instanceMethod yX0_init ∈ tW := tb_1 (i := 29) rfl rfl
theorem cd_X0_empty : Cond.code yX0_empty cX0_empty 2 (none) ∈ tW := tb_2 (i := 71) rfl rfl
theorem iM_X0_empty : Cond.instanceMethod yX0_empty ∈ tW := tb_2 (i := 69) rfl rfl
theorem se_X0_empty : Cond.selects RX0 yX0_empty yX0_empty ∈ tW := tb_2 (i := 70) rfl rfl
theorem cd_X0_add : Cond.code yX0_add cX0_add 3 (some .int) ∈ tW := tb_2 (i := 86) rfl rfl
theorem iM_X0_add : Cond.instanceMethod yX0_add ∈ tW := tb_2 (i := 84) rfl rfl
theorem se_X0_add : Cond.selects RX0 yX0_add yX0_add ∈ tW := tb_2 (i := 85) rfl rfl
theorem cd_X0_has : Cond.code yX0_has cX0_has 2 (some .boolean) ∈ tW := tb_2 (i := 98) rfl rfl
theorem iM_X0_has : Cond.instanceMethod yX0_has ∈ tW := tb_2 (i := 96) rfl rfl
theorem se_X0_has : Cond.selects RX0 yX0_has yX0_has ∈ tW := tb_2 (i := 97) rfl rfl
theorem cd_X0_isPhase : Cond.code yX0_isPhase cX0_isPhase 2 (some .boolean) ∈ tW := tb_2 (i := 82) rfl rfl
theorem iM_X0_isPhase : Cond.instanceMethod yX0_isPhase ∈ tW := tb_2 (i := 80) rfl rfl
theorem se_X0_isPhase : Cond.selects RX0 yX0_isPhase yX0_isPhase ∈ tW := tb_2 (i := 81) rfl rfl
theorem cd_X0_isSet : Cond.code yX0_isSet cX0_isSet 2 (some .boolean) ∈ tW := tb_2 (i := 202) rfl rfl
theorem iM_X0_isSet : Cond.instanceMethod yX0_isSet ∈ tW := tb_2 (i := 200) rfl rfl
theorem se_X0_isSet : Cond.selects RX0 yX0_isSet yX0_isSet ∈ tW := tb_2 (i := 201) rfl rfl
theorem cd_X0_everyone : Cond.code yX0_everyone cX0_everyone 1 (some .int) ∈ tW := tb_2 (i := 135) rfl rfl
theorem iM_X0_everyone : Cond.instanceMethod yX0_everyone ∈ tW := tb_2 (i := 134) rfl rfl
theorem se_X0_everyone : Cond.selects RX0 yX0_everyone yX0_everyone ∈ tW := tW_in (i := 6) rfl rfl
theorem cd_X0_holds : Cond.code yX0_holds cX0_holds 2 (some .boolean) ∈ tW := tb_2 (i := 170) rfl rfl
theorem sM_X0_holds : Cond.static yX0_holds ∈ tW := tb_2 (i := 169) rfl rfl
theorem cd_X0_setRoad : Cond.code yX0_setRoad cX0_setRoad 4 (none) ∈ tW := tb_2 (i := 123) rfl rfl
theorem iM_X0_setRoad : Cond.instanceMethod yX0_setRoad ∈ tW := tb_2 (i := 121) rfl rfl
theorem se_X0_setRoad : Cond.selects RX0 yX0_setRoad yX0_setRoad ∈ tW := tb_2 (i := 122) rfl rfl
theorem cd_X0_setRoads : Cond.code yX0_setRoads cX0_setRoads 5 (none) ∈ tW := tb_2 (i := 131) rfl rfl
theorem iM_X0_setRoads : Cond.instanceMethod yX0_setRoads ∈ tW := tb_2 (i := 129) rfl rfl
theorem se_X0_setRoads : Cond.selects RX0 yX0_setRoads yX0_setRoads ∈ tW := tb_2 (i := 130) rfl rfl
theorem cd_X0_allRoads : Cond.code yX0_allRoads cX0_allRoads 3 (some .int) ∈ tW := tb_2 (i := 183) rfl rfl
theorem iM_X0_allRoads : Cond.instanceMethod yX0_allRoads ∈ tW := tb_2 (i := 181) rfl rfl
theorem se_X0_allRoads : Cond.selects RX0 yX0_allRoads yX0_allRoads ∈ tW := tb_2 (i := 182) rfl rfl
theorem cd_X0_findLeaders : Cond.code yX0_findLeaders cX0_findLeaders 5 (some .int) ∈ tW := tb_3 (i := 125) rfl rfl
theorem iM_X0_findLeaders : Cond.instanceMethod yX0_findLeaders ∈ tW := tb_3 (i := 123) rfl rfl
theorem se_X0_findLeaders : Cond.selects RX0 yX0_findLeaders yX0_findLeaders ∈ tW := tb_3 (i := 124) rfl rfl
theorem cd_X0_fillReach : Cond.code yX0_fillReach cX0_fillReach 3 (none) ∈ tW := tb_3 (i := 129) rfl rfl
theorem iM_X0_fillReach : Cond.instanceMethod yX0_fillReach ∈ tW := tb_3 (i := 128) rfl rfl
theorem se_X0_fillReach : Cond.selects RX0 yX0_fillReach yX0_fillReach ∈ tW := tW_in (i := 22) rfl rfl
theorem cd_X0_allLeadBack : Cond.code yX0_allLeadBack cX0_allLeadBack 3 (some .boolean) ∈ tW := tb_3 (i := 137) rfl rfl
theorem iM_X0_allLeadBack : Cond.instanceMethod yX0_allLeadBack ∈ tW := tb_3 (i := 136) rfl rfl
theorem se_X0_allLeadBack : Cond.selects RX0 yX0_allLeadBack yX0_allLeadBack ∈ tW := tW_in (i := 23) rfl rfl
theorem cd_X0_tick : Cond.code yX0_tick cX0_tick 5 (none) ∈ tW := tb_2 (i := 155) rfl rfl
theorem iM_X0_tick : Cond.instanceMethod yX0_tick ∈ tW := tb_2 (i := 153) rfl rfl
theorem se_X0_tick : Cond.selects RX0 yX0_tick yX0_tick ∈ tW := tb_2 (i := 154) rfl rfl
theorem cd_X0_wrap : Cond.code yX0_wrap cX0_wrap 2 (some .int) ∈ tW := tb_2 (i := 163) rfl rfl
theorem iM_X0_wrap : Cond.instanceMethod yX0_wrap ∈ tW := tb_2 (i := 162) rfl rfl
theorem se_X0_wrap : Cond.selects RX0 yX0_wrap yX0_wrap ∈ tW := tW_in (i := 8) rfl rfl
theorem cd_X0_pullOn : Cond.code yX0_pullOn cX0_pullOn 9 (some .int) ∈ tW := tb_2 (i := 159) rfl rfl
theorem iM_X0_pullOn : Cond.instanceMethod yX0_pullOn ∈ tW := tb_2 (i := 158) rfl rfl
theorem se_X0_pullOn : Cond.selects RX0 yX0_pullOn yX0_pullOn ∈ tW := tW_in (i := 7) rfl rfl
theorem cd_X0_fire : Cond.code yX0_fire cX0_fire 8 (none) ∈ tW := tb_2 (i := 167) rfl rfl
theorem iM_X0_fire : Cond.instanceMethod yX0_fire ∈ tW := tb_2 (i := 166) rfl rfl
theorem se_X0_fire : Cond.selects RX0 yX0_fire yX0_fire ∈ tW := tW_in (i := 9) rfl rfl
theorem cd_X0_pushAt : Cond.code yX0_pushAt cX0_pushAt 3 (some .int) ∈ tW := tb_2 (i := 174) rfl rfl
theorem iM_X0_pushAt : Cond.instanceMethod yX0_pushAt ∈ tW := tb_2 (i := 173) rfl rfl
theorem se_X0_pushAt : Cond.selects RX0 yX0_pushAt yX0_pushAt ∈ tW := tW_in (i := 10) rfl rfl
theorem cd_X0_startWalk : Cond.code yX0_startWalk cX0_startWalk 1 (none) ∈ tW := tb_2 (i := 232) rfl rfl
theorem iM_X0_startWalk : Cond.instanceMethod yX0_startWalk ∈ tW := tb_2 (i := 230) rfl rfl
theorem se_X0_startWalk : Cond.selects RX0 yX0_startWalk yX0_startWalk ∈ tW := tb_2 (i := 231) rfl rfl
theorem cd_X0_walk : Cond.code yX0_walk cX0_walk 1 (none) ∈ tW := tb_3 (i := 43) rfl rfl
theorem iM_X0_walk : Cond.instanceMethod yX0_walk ∈ tW := tb_3 (i := 41) rfl rfl
theorem se_X0_walk : Cond.selects RX0 yX0_walk yX0_walk ∈ tW := tb_3 (i := 42) rfl rfl
theorem cd_X0_inStep : Cond.code yX0_inStep cX0_inStep 5 (some .boolean) ∈ tW := tb_2 (i := 206) rfl rfl
theorem iM_X0_inStep : Cond.instanceMethod yX0_inStep ∈ tW := tb_2 (i := 204) rfl rfl
theorem se_X0_inStep : Cond.selects RX0 yX0_inStep yX0_inStep ∈ tW := tb_2 (i := 205) rfl rfl
theorem cd_X0_leastArc : Cond.code yX0_leastArc cX0_leastArc 4 (some .int) ∈ tW := tb_2 (i := 214) rfl rfl
theorem iM_X0_leastArc : Cond.instanceMethod yX0_leastArc ∈ tW := tb_2 (i := 212) rfl rfl
theorem se_X0_leastArc : Cond.selects RX0 yX0_leastArc yX0_leastArc ∈ tW := tb_2 (i := 213) rfl rfl
theorem cd_X0_arcFrom : Cond.code yX0_arcFrom cX0_arcFrom 5 (some .int) ∈ tW := tb_2 (i := 218) rfl rfl
theorem iM_X0_arcFrom : Cond.instanceMethod yX0_arcFrom ∈ tW := tb_2 (i := 217) rfl rfl
theorem se_X0_arcFrom : Cond.selects RX0 yX0_arcFrom yX0_arcFrom ∈ tW := tW_in (i := 11) rfl rfl
theorem cd_X0_smallStates : Cond.code yX0_smallStates cX0_smallStates 3 (some .int) ∈ tW := tb_3 (i := 56) rfl rfl
theorem iM_X0_smallStates : Cond.instanceMethod yX0_smallStates ∈ tW := tb_3 (i := 54) rfl rfl
theorem se_X0_smallStates : Cond.selects RX0 yX0_smallStates yX0_smallStates ∈ tW := tb_3 (i := 55) rfl rfl
theorem cd_X0_stateAfter : Cond.code yX0_stateAfter cX0_stateAfter 4 (some .int) ∈ tW := tb_3 (i := 70) rfl rfl
theorem iM_X0_stateAfter : Cond.instanceMethod yX0_stateAfter ∈ tW := tb_3 (i := 68) rfl rfl
theorem se_X0_stateAfter : Cond.selects RX0 yX0_stateAfter yX0_stateAfter ∈ tW := tb_3 (i := 69) rfl rfl
theorem cd_X0_stateInStep : Cond.code yX0_stateInStep cX0_stateInStep 3 (some .boolean) ∈ tW := tb_3 (i := 116) rfl rfl
theorem iM_X0_stateInStep : Cond.instanceMethod yX0_stateInStep ∈ tW := tb_3 (i := 114) rfl rfl
theorem se_X0_stateInStep : Cond.selects RX0 yX0_stateInStep yX0_stateInStep ∈ tW := tb_3 (i := 115) rfl rfl
theorem cd_X0_setWalker : Cond.code yX0_setWalker cX0_setWalker 4 (none) ∈ tW := tb_3 (i := 74) rfl rfl
theorem iM_X0_setWalker : Cond.instanceMethod yX0_setWalker ∈ tW := tb_3 (i := 73) rfl rfl
theorem se_X0_setWalker : Cond.selects RX0 yX0_setWalker yX0_setWalker ∈ tW := tW_in (i := 17) rfl rfl
theorem cd_X1_init : Cond.code yX1_init cX1_init 1 (none) ∈ tW := tb_1 (i := 113) rfl rfl
theorem iM_X1_init : Cond.instanceMethod yX1_init ∈ tW := tb_1 (i := 112) rfl rfl
theorem cd_X1_follow : Cond.code yX1_follow cX1_follow 5 (none) ∈ tW := tb_3 (i := 60) rfl rfl
theorem iM_X1_follow : Cond.instanceMethod yX1_follow ∈ tW := tb_3 (i := 58) rfl rfl
theorem se_X1_follow : Cond.selects RX1 yX1_follow yX1_follow ∈ tW := tb_3 (i := 59) rfl rfl
theorem cd_X1_makeRoom : Cond.code yX1_makeRoom cX1_makeRoom 3 (none) ∈ tW := tb_3 (i := 64) rfl rfl
theorem iM_X1_makeRoom : Cond.instanceMethod yX1_makeRoom ∈ tW := tb_3 (i := 63) rfl rfl
theorem se_X1_makeRoom : Cond.selects RX1 yX1_makeRoom yX1_makeRoom ∈ tW := tW_in (i := 16) rfl rfl
theorem cd_X1_followFrom : Cond.code yX1_followFrom cX1_followFrom 7 (none) ∈ tW := tb_3 (i := 80) rfl rfl
theorem iM_X1_followFrom : Cond.instanceMethod yX1_followFrom ∈ tW := tb_3 (i := 79) rfl rfl
theorem se_X1_followFrom : Cond.selects RX1 yX1_followFrom yX1_followFrom ∈ tW := tW_in (i := 18) rfl rfl
theorem cd_X1_leastOfRound : Cond.code yX1_leastOfRound cX1_leastOfRound 6 (some .int) ∈ tW := tb_3 (i := 84) rfl rfl
theorem iM_X1_leastOfRound : Cond.instanceMethod yX1_leastOfRound ∈ tW := tb_3 (i := 83) rfl rfl
theorem se_X1_leastOfRound : Cond.selects RX1 yX1_leastOfRound yX1_leastOfRound ∈ tW := tW_in (i := 19) rfl rfl
theorem cd_X1_keep : Cond.code yX1_keep cX1_keep 5 (none) ∈ tW := tb_3 (i := 88) rfl rfl
theorem iM_X1_keep : Cond.instanceMethod yX1_keep ∈ tW := tb_3 (i := 86) rfl rfl
theorem se_X1_keep : Cond.selects RX1 yX1_keep yX1_keep ∈ tW := tb_3 (i := 87) rfl rfl
theorem cd_X1_lengthOfRound : Cond.code yX1_lengthOfRound cX1_lengthOfRound 5 (some .int) ∈ tW := tb_3 (i := 92) rfl rfl
theorem iM_X1_lengthOfRound : Cond.instanceMethod yX1_lengthOfRound ∈ tW := tb_3 (i := 91) rfl rfl
theorem se_X1_lengthOfRound : Cond.selects RX1 yX1_lengthOfRound yX1_lengthOfRound ∈ tW := tW_in (i := 20) rfl rfl
theorem cd_X1_tell : Cond.code yX1_tell cX1_tell 4 (some .int) ∈ tW := tb_3 (i := 100) rfl rfl
theorem iM_X1_tell : Cond.instanceMethod yX1_tell ∈ tW := tb_3 (i := 98) rfl rfl
theorem se_X1_tell : Cond.selects RX1 yX1_tell yX1_tell ∈ tW := tb_3 (i := 99) rfl rfl
theorem cd_X1_statesInStep : Cond.code yX1_statesInStep cX1_statesInStep 6 (some .int) ∈ tW := tb_3 (i := 108) rfl rfl
theorem iM_X1_statesInStep : Cond.instanceMethod yX1_statesInStep ∈ tW := tb_3 (i := 106) rfl rfl
theorem se_X1_statesInStep : Cond.selects RX1 yX1_statesInStep yX1_statesInStep ∈ tW := tb_3 (i := 107) rfl rfl
theorem cd_X1_roundInStep : Cond.code yX1_roundInStep cX1_roundInStep 7 (some .boolean) ∈ tW := tb_3 (i := 112) rfl rfl
theorem iM_X1_roundInStep : Cond.instanceMethod yX1_roundInStep ∈ tW := tb_3 (i := 111) rfl rfl
theorem se_X1_roundInStep : Cond.selects RX1 yX1_roundInStep yX1_roundInStep ∈ tW := tW_in (i := 21) rfl rfl
theorem cd_X2_init : Cond.code yX2_init cX2_init 1 (none) ∈ tW := tb_1 (i := 194) rfl rfl
theorem iM_X2_init : Cond.instanceMethod yX2_init ∈ tW := tb_1 (i := 193) rfl rfl
theorem cd_X2_isMissing : Cond.code yX2_isMissing cX2_isMissing 1 (some .boolean) ∈ tW := tb_2 (i := 31) rfl rfl
theorem iM_X2_isMissing : Cond.instanceMethod yX2_isMissing ∈ tW := tb_2 (i := 29) rfl rfl
theorem se_X2_isMissing : Cond.selects RX2 yX2_isMissing yX2_isMissing ∈ tW := tb_2 (i := 30) rfl rfl
theorem cd_X2_make : Cond.code yX2_make cX2_make 3 (none) ∈ tW := tb_2 (i := 18) rfl rfl
theorem iM_X2_make : Cond.instanceMethod yX2_make ∈ tW := tb_2 (i := 16) rfl rfl
theorem se_X2_make : Cond.selects RX2 yX2_make yX2_make ∈ tW := tb_2 (i := 17) rfl rfl
theorem cd_X2_hasPlaces : Cond.code yX2_hasPlaces cX2_hasPlaces 3 (some .boolean) ∈ tW := tb_2 (i := 35) rfl rfl
theorem iM_X2_hasPlaces : Cond.instanceMethod yX2_hasPlaces ∈ tW := tb_2 (i := 33) rfl rfl
theorem se_X2_hasPlaces : Cond.selects RX2 yX2_hasPlaces yX2_hasPlaces ∈ tW := tb_2 (i := 34) rfl rfl
theorem cd_X2_at : Cond.code yX2_at cX2_at 2 (some .long) ∈ tW := tb_2 (i := 56) rfl rfl
theorem iM_X2_at : Cond.instanceMethod yX2_at ∈ tW := tb_2 (i := 54) rfl rfl
theorem se_X2_at : Cond.selects RX2 yX2_at yX2_at ∈ tW := tb_2 (i := 55) rfl rfl
theorem cd_X2_put : Cond.code yX2_put cX2_put 4 (none) ∈ tW := tb_2 (i := 39) rfl rfl
theorem iM_X2_put : Cond.instanceMethod yX2_put ∈ tW := tb_2 (i := 37) rfl rfl
theorem se_X2_put : Cond.selects RX2 yX2_put yX2_put ∈ tW := tb_2 (i := 38) rfl rfl
theorem cd_X2_cutToSort : Cond.code yX2_cutToSort cX2_cutToSort 3 (some .long) ∈ tW := tb_2 (i := 44) rfl rfl
theorem iM_X2_cutToSort : Cond.instanceMethod yX2_cutToSort ∈ tW := tb_2 (i := 43) rfl rfl
theorem se_X2_cutToSort : Cond.selects RX2 yX2_cutToSort yX2_cutToSort ∈ tW := tW_in (i := 3) rfl rfl
theorem cd_X2_liesWithin : Cond.code yX2_liesWithin cX2_liesWithin 7 (some .boolean) ∈ tW := tb_2 (i := 110) rfl rfl
theorem iM_X2_liesWithin : Cond.instanceMethod yX2_liesWithin ∈ tW := tb_2 (i := 108) rfl rfl
theorem se_X2_liesWithin : Cond.selects RX2 yX2_liesWithin yX2_liesWithin ∈ tW := tb_2 (i := 109) rfl rfl
theorem cd_X2_copyInts : Cond.code yX2_copyInts cX2_copyInts 4 (none) ∈ tW := tb_2 (i := 115) rfl rfl
theorem iM_X2_copyInts : Cond.instanceMethod yX2_copyInts ∈ tW := tb_2 (i := 113) rfl rfl
theorem se_X2_copyInts : Cond.selects RX2 yX2_copyInts yX2_copyInts ∈ tW := tb_2 (i := 114) rfl rfl
theorem cd_X3_init : Cond.code yX3_init cX3_init 1 (none) ∈ tW := tb_1 (i := 136) rfl rfl
theorem iM_X3_init : Cond.instanceMethod yX3_init ∈ tW := tb_1 (i := 135) rfl rfl
theorem cd_X3_empty : Cond.code yX3_empty cX3_empty 2 (none) ∈ tW := tb_3 (i := 149) rfl rfl
theorem iM_X3_empty : Cond.instanceMethod yX3_empty ∈ tW := tb_3 (i := 147) rfl rfl
theorem se_X3_empty : Cond.selects RX3 yX3_empty yX3_empty ∈ tW := tb_3 (i := 148) rfl rfl
theorem cd_X3_has : Cond.code yX3_has cX3_has 3 (some .boolean) ∈ tW := tb_3 (i := 157) rfl rfl
theorem iM_X3_has : Cond.instanceMethod yX3_has ∈ tW := tb_3 (i := 155) rfl rfl
theorem se_X3_has : Cond.selects RX3 yX3_has yX3_has ∈ tW := tb_3 (i := 156) rfl rfl
theorem cd_X3_place : Cond.code yX3_place cX3_place 2 (some .int) ∈ tW := tb_3 (i := 166) rfl rfl
theorem sM_X3_place : Cond.static yX3_place ∈ tW := tb_3 (i := 165) rfl rfl
theorem cd_X3_put : Cond.code yX3_put cX3_put 5 (none) ∈ tW := tb_3 (i := 163) rfl rfl
theorem iM_X3_put : Cond.instanceMethod yX3_put ∈ tW := tb_3 (i := 161) rfl rfl
theorem se_X3_put : Cond.selects RX3 yX3_put yX3_put ∈ tW := tb_3 (i := 162) rfl rfl
theorem cd_X3_remove : Cond.code yX3_remove cX3_remove 4 (some .boolean) ∈ tW := tb_3 (i := 174) rfl rfl
theorem iM_X3_remove : Cond.instanceMethod yX3_remove ∈ tW := tb_3 (i := 172) rfl rfl
theorem se_X3_remove : Cond.selects RX3 yX3_remove yX3_remove ∈ tW := tb_3 (i := 173) rfl rfl
theorem cd_X3_join : Cond.code yX3_join cX3_join 4 (some .long) ∈ tW := tb_3 (i := 222) rfl rfl
theorem sM_X3_join : Cond.static yX3_join ∈ tW := tb_3 (i := 221) rfl rfl
theorem cd_X3_multiply : Cond.code yX3_multiply cX3_multiply 8 (none) ∈ tW := tb_3 (i := 195) rfl rfl
theorem iM_X3_multiply : Cond.instanceMethod yX3_multiply ∈ tW := tb_3 (i := 194) rfl rfl
theorem se_X3_multiply : Cond.selects RX3 yX3_multiply yX3_multiply ∈ tW := tW_in (i := 26) rfl rfl
theorem cd_X3_takeBetter : Cond.code yX3_takeBetter cX3_takeBetter 12 (none) ∈ tW := tb_3 (i := 199) rfl rfl
theorem iM_X3_takeBetter : Cond.instanceMethod yX3_takeBetter ∈ tW := tb_3 (i := 198) rfl rfl
theorem se_X3_takeBetter : Cond.selects RX3 yX3_takeBetter yX3_takeBetter ∈ tW := tW_in (i := 27) rfl rfl
theorem cd_X3_multiplyPower : Cond.code yX3_multiplyPower cX3_multiplyPower 3 (none) ∈ tW := tb_3 (i := 191) rfl rfl
theorem iM_X3_multiplyPower : Cond.instanceMethod yX3_multiplyPower ∈ tW := tb_3 (i := 190) rfl rfl
theorem se_X3_multiplyPower : Cond.selects RX3 yX3_multiplyPower yX3_multiplyPower ∈ tW := tW_in (i := 25) rfl rfl
theorem cd_X3_startRow : Cond.code yX3_startRow cX3_startRow 2 (none) ∈ tW := tb_4 (i := 6) rfl rfl
theorem iM_X3_startRow : Cond.instanceMethod yX3_startRow ∈ tW := tb_4 (i := 5) rfl rfl
theorem se_X3_startRow : Cond.selects RX3 yX3_startRow yX3_startRow ∈ tW := tW_in (i := 33) rfl rfl
theorem cd_X3_multiplyRow : Cond.code yX3_multiplyRow cX3_multiplyRow 6 (none) ∈ tW := tb_4 (i := 10) rfl rfl
theorem iM_X3_multiplyRow : Cond.instanceMethod yX3_multiplyRow ∈ tW := tb_4 (i := 9) rfl rfl
theorem se_X3_multiplyRow : Cond.selects RX3 yX3_multiplyRow yX3_multiplyRow ∈ tW := tW_in (i := 34) rfl rfl
theorem cd_X3_sumOf : Cond.code yX3_sumOf cX3_sumOf 7 (some .long) ∈ tW := tb_4 (i := 2) rfl rfl
theorem iM_X3_sumOf : Cond.instanceMethod yX3_sumOf ∈ tW := tb_4 (i := 0) rfl rfl
theorem se_X3_sumOf : Cond.selects RX3 yX3_sumOf yX3_sumOf ∈ tW := tb_4 (i := 1) rfl rfl
theorem cd_X3_longestSum : Cond.code yX3_longestSum cX3_longestSum 6 (some .long) ∈ tW := tb_4 (i := 24) rfl rfl
theorem iM_X3_longestSum : Cond.instanceMethod yX3_longestSum ∈ tW := tb_4 (i := 22) rfl rfl
theorem se_X3_longestSum : Cond.selects RX3 yX3_longestSum yX3_longestSum ∈ tW := tb_4 (i := 23) rfl rfl
theorem cd_X3_findPace : Cond.code yX3_findPace cX3_findPace 2 (some .boolean) ∈ tW := tb_3 (i := 182) rfl rfl
theorem iM_X3_findPace : Cond.instanceMethod yX3_findPace ∈ tW := tb_3 (i := 180) rfl rfl
theorem se_X3_findPace : Cond.selects RX3 yX3_findPace yX3_findPace ∈ tW := tb_3 (i := 181) rfl rfl
theorem cd_X3_takeRounds : Cond.code yX3_takeRounds cX3_takeRounds 5 (none) ∈ tW := tb_3 (i := 187) rfl rfl
theorem iM_X3_takeRounds : Cond.instanceMethod yX3_takeRounds ∈ tW := tb_3 (i := 186) rfl rfl
theorem se_X3_takeRounds : Cond.selects RX3 yX3_takeRounds yX3_takeRounds ∈ tW := tW_in (i := 24) rfl rfl
theorem cd_X3_reducePace : Cond.code yX3_reducePace cX3_reducePace 3 (none) ∈ tW := tb_3 (i := 203) rfl rfl
theorem iM_X3_reducePace : Cond.instanceMethod yX3_reducePace ∈ tW := tb_3 (i := 202) rfl rfl
theorem se_X3_reducePace : Cond.selects RX3 yX3_reducePace yX3_reducePace ∈ tW := tW_in (i := 28) rfl rfl
theorem cd_X3_shiftByPace : Cond.code yX3_shiftByPace cX3_shiftByPace 2 (none) ∈ tW := tb_3 (i := 215) rfl rfl
theorem iM_X3_shiftByPace : Cond.instanceMethod yX3_shiftByPace ∈ tW := tb_3 (i := 214) rfl rfl
theorem se_X3_shiftByPace : Cond.selects RX3 yX3_shiftByPace yX3_shiftByPace ∈ tW := tW_in (i := 29) rfl rfl
theorem cd_X3_traceCritical : Cond.code yX3_traceCritical cX3_traceCritical 3 (some .int) ∈ tW := tb_3 (i := 211) rfl rfl
theorem iM_X3_traceCritical : Cond.instanceMethod yX3_traceCritical ∈ tW := tb_3 (i := 209) rfl rfl
theorem se_X3_traceCritical : Cond.selects RX3 yX3_traceCritical yX3_traceCritical ∈ tW := tb_3 (i := 210) rfl rfl
theorem cd_X3_fillBack : Cond.code yX3_fillBack cX3_fillBack 7 (none) ∈ tW := tb_3 (i := 219) rfl rfl
theorem iM_X3_fillBack : Cond.instanceMethod yX3_fillBack ∈ tW := tb_3 (i := 218) rfl rfl
theorem se_X3_fillBack : Cond.selects RX3 yX3_fillBack yX3_fillBack ∈ tW := tW_in (i := 30) rfl rfl
theorem cd_X3_writeRound : Cond.code yX3_writeRound cX3_writeRound 6 (none) ∈ tW := tb_3 (i := 229) rfl rfl
theorem iM_X3_writeRound : Cond.instanceMethod yX3_writeRound ∈ tW := tb_3 (i := 228) rfl rfl
theorem se_X3_writeRound : Cond.selects RX3 yX3_writeRound yX3_writeRound ∈ tW := tW_in (i := 31) rfl rfl
theorem cd_X3_leastNext : Cond.code yX3_leastNext cX3_leastNext 6 (some .int) ∈ tW := tb_3 (i := 233) rfl rfl
theorem iM_X3_leastNext : Cond.instanceMethod yX3_leastNext ∈ tW := tb_3 (i := 232) rfl rfl
theorem se_X3_leastNext : Cond.selects RX3 yX3_leastNext yX3_leastNext ∈ tW := tW_in (i := 32) rfl rfl
theorem cd_X3_findAgain : Cond.code yX3_findAgain cX3_findAgain 3 (some .boolean) ∈ tW := tb_4 (i := 32) rfl rfl
theorem iM_X3_findAgain : Cond.instanceMethod yX3_findAgain ∈ tW := tb_4 (i := 30) rfl rfl
theorem se_X3_findAgain : Cond.selects RX3 yX3_findAgain yX3_findAgain ∈ tW := tb_4 (i := 31) rfl rfl
theorem cd_X3_areAlike : Cond.code yX3_areAlike cX3_areAlike 5 (some .boolean) ∈ tW := tb_4 (i := 36) rfl rfl
theorem iM_X3_areAlike : Cond.instanceMethod yX3_areAlike ∈ tW := tb_4 (i := 35) rfl rfl
theorem se_X3_areAlike : Cond.selects RX3 yX3_areAlike yX3_areAlike ∈ tW := tW_in (i := 36) rfl rfl
theorem cd_X4_init : Cond.code yX4_init cX4_init 1 (none) ∈ tW := tb_1 (i := 90) rfl rfl
theorem iM_X4_init : Cond.instanceMethod yX4_init ∈ tW := tb_1 (i := 89) rfl rfl
theorem cd_X4_start : Cond.code yX4_start cX4_start 2 (none) ∈ tW := tb_2 (i := 236) rfl rfl
theorem iM_X4_start : Cond.instanceMethod yX4_start ∈ tW := tb_2 (i := 234) rfl rfl
theorem se_X4_start : Cond.selects RX4 yX4_start yX4_start ∈ tW := tb_2 (i := 235) rfl rfl
theorem cd_X4_stepOf : Cond.code yX4_stepOf cX4_stepOf 6 (some .int) ∈ tW := tb_3 (i := 1) rfl rfl
theorem iM_X4_stepOf : Cond.instanceMethod yX4_stepOf ∈ tW := tb_2 (i := 239) rfl rfl
theorem se_X4_stepOf : Cond.selects RX4 yX4_stepOf yX4_stepOf ∈ tW := tb_3 (i := 0) rfl rfl
theorem cd_X4_makeRoom : Cond.code yX4_makeRoom cX4_makeRoom 2 (none) ∈ tW := tb_3 (i := 5) rfl rfl
theorem iM_X4_makeRoom : Cond.instanceMethod yX4_makeRoom ∈ tW := tb_3 (i := 4) rfl rfl
theorem se_X4_makeRoom : Cond.selects RX4 yX4_makeRoom yX4_makeRoom ∈ tW := tW_in (i := 12) rfl rfl
theorem cd_X4_pack : Cond.code yX4_pack cX4_pack 9 (none) ∈ tW := tb_3 (i := 30) rfl rfl
theorem iM_X4_pack : Cond.instanceMethod yX4_pack ∈ tW := tb_3 (i := 29) rfl rfl
theorem se_X4_pack : Cond.selects RX4 yX4_pack yX4_pack ∈ tW := tW_in (i := 13) rfl rfl
theorem cd_X4_headOfLast : Cond.code yX4_headOfLast cX4_headOfLast 5 (some .int) ∈ tW := tb_3 (i := 34) rfl rfl
theorem iM_X4_headOfLast : Cond.instanceMethod yX4_headOfLast ∈ tW := tb_3 (i := 33) rfl rfl
theorem se_X4_headOfLast : Cond.selects RX4 yX4_headOfLast yX4_headOfLast ∈ tW := tW_in (i := 14) rfl rfl
theorem cd_X4_isLikeLast : Cond.code yX4_isLikeLast cX4_isLikeLast 5 (some .boolean) ∈ tW := tb_3 (i := 39) rfl rfl
theorem iM_X4_isLikeLast : Cond.instanceMethod yX4_isLikeLast ∈ tW := tb_3 (i := 38) rfl rfl
theorem se_X4_isLikeLast : Cond.selects RX4 yX4_isLikeLast yX4_isLikeLast ∈ tW := tW_in (i := 15) rfl rfl
theorem cd_X5_init : Cond.code yX5_init cX5_init 2 (none) ∈ tW := tb_1 (i := 20) rfl rfl
theorem iM_X5_init : Cond.instanceMethod yX5_init ∈ tW := tb_1 (i := 19) rfl rfl
theorem cd_X5_status : Cond.code yX5_status cX5_status 1 (some .int) ∈ tW := tb_2 (i := 2) rfl rfl
theorem iM_X5_status : Cond.instanceMethod yX5_status ∈ tW := tb_2 (i := 0) rfl rfl
theorem se_X5_status : Cond.selects RX5 yX5_status yX5_status ∈ tW := tb_2 (i := 1) rfl rfl
theorem cd_X5_sheet : Cond.code yX5_sheet cX5_sheet 5 (some .boolean) ∈ tW := tb_2 (i := 6) rfl rfl
theorem iM_X5_sheet : Cond.instanceMethod yX5_sheet ∈ tW := tb_2 (i := 4) rfl rfl
theorem se_X5_sheet : Cond.selects RX5 yX5_sheet yX5_sheet ∈ tW := tb_2 (i := 5) rfl rfl
theorem cd_X5_write : Cond.code yX5_write cX5_write 6 (some .boolean) ∈ tW := tb_2 (i := 27) rfl rfl
theorem iM_X5_write : Cond.instanceMethod yX5_write ∈ tW := tb_2 (i := 25) rfl rfl
theorem se_X5_write : Cond.selects RX5 yX5_write yX5_write ∈ tW := tb_2 (i := 26) rfl rfl
theorem cd_X5_read : Cond.code yX5_read cX5_read 4 (some .long) ∈ tW := tb_2 (i := 48) rfl rfl
theorem iM_X5_read : Cond.instanceMethod yX5_read ∈ tW := tb_2 (i := 46) rfl rfl
theorem se_X5_read : Cond.selects RX5 yX5_read yX5_read ∈ tW := tb_2 (i := 47) rfl rfl
theorem cd_X5_pour : Cond.code yX5_pour cX5_pour 8 (some .boolean) ∈ tW := tb_2 (i := 60) rfl rfl
theorem iM_X5_pour : Cond.instanceMethod yX5_pour ∈ tW := tb_2 (i := 58) rfl rfl
theorem se_X5_pour : Cond.selects RX5 yX5_pour yX5_pour ∈ tW := tb_2 (i := 59) rfl rfl
theorem cd_X5_ring : Cond.code yX5_ring cX5_ring 2 (some .boolean) ∈ tW := tb_2 (i := 67) rfl rfl
theorem iM_X5_ring : Cond.instanceMethod yX5_ring ∈ tW := tb_2 (i := 65) rfl rfl
theorem se_X5_ring : Cond.selects RX5 yX5_ring yX5_ring ∈ tW := tb_2 (i := 66) rfl rfl
theorem cd_X5_beater : Cond.code yX5_beater cX5_beater 3 (some .int) ∈ tW := tb_2 (i := 75) rfl rfl
theorem iM_X5_beater : Cond.instanceMethod yX5_beater ∈ tW := tb_2 (i := 73) rfl rfl
theorem se_X5_beater : Cond.selects RX5 yX5_beater yX5_beater ∈ tW := tb_2 (i := 74) rfl rfl
theorem cd_X5_kind : Cond.code yX5_kind cX5_kind 3 (some .boolean) ∈ tW := tb_2 (i := 94) rfl rfl
theorem iM_X5_kind : Cond.instanceMethod yX5_kind ∈ tW := tb_2 (i := 92) rfl rfl
theorem se_X5_kind : Cond.selects RX5 yX5_kind yX5_kind ∈ tW := tb_2 (i := 93) rfl rfl
theorem cd_X5_turn : Cond.code yX5_turn cX5_turn 3 (some .boolean) ∈ tW := tb_2 (i := 102) rfl rfl
theorem iM_X5_turn : Cond.instanceMethod yX5_turn ∈ tW := tb_2 (i := 100) rfl rfl
theorem se_X5_turn : Cond.selects RX5 yX5_turn yX5_turn ∈ tW := tb_2 (i := 101) rfl rfl
theorem cd_X5_phases : Cond.code yX5_phases cX5_phases 3 (some .boolean) ∈ tW := tb_2 (i := 106) rfl rfl
theorem iM_X5_phases : Cond.instanceMethod yX5_phases ∈ tW := tb_2 (i := 104) rfl rfl
theorem se_X5_phases : Cond.selects RX5 yX5_phases yX5_phases ∈ tW := tb_2 (i := 105) rfl rfl
theorem cd_X5_road : Cond.code yX5_road cX5_road 4 (some .boolean) ∈ tW := tb_2 (i := 119) rfl rfl
theorem iM_X5_road : Cond.instanceMethod yX5_road ∈ tW := tb_2 (i := 117) rfl rfl
theorem se_X5_road : Cond.selects RX5 yX5_road yX5_road ∈ tW := tb_2 (i := 118) rfl rfl
theorem cd_X5_roads : Cond.code yX5_roads cX5_roads 2 (some .boolean) ∈ tW := tb_2 (i := 127) rfl rfl
theorem iM_X5_roads : Cond.instanceMethod yX5_roads ∈ tW := tb_2 (i := 125) rfl rfl
theorem se_X5_roads : Cond.selects RX5 yX5_roads yX5_roads ∈ tW := tb_2 (i := 126) rfl rfl
theorem cd_X5_push : Cond.code yX5_push cX5_push 4 (some .boolean) ∈ tW := tb_2 (i := 139) rfl rfl
theorem iM_X5_push : Cond.instanceMethod yX5_push ∈ tW := tb_2 (i := 137) rfl rfl
theorem se_X5_push : Cond.selects RX5 yX5_push yX5_push ∈ tW := tb_2 (i := 138) rfl rfl
theorem cd_X5_clear : Cond.code yX5_clear cX5_clear 1 (some .boolean) ∈ tW := tb_2 (i := 144) rfl rfl
theorem iM_X5_clear : Cond.instanceMethod yX5_clear ∈ tW := tb_2 (i := 142) rfl rfl
theorem se_X5_clear : Cond.selects RX5 yX5_clear yX5_clear ∈ tW := tb_2 (i := 143) rfl rfl
theorem cd_X5_go : Cond.code yX5_go cX5_go 3 (some .boolean) ∈ tW := tb_2 (i := 151) rfl rfl
theorem iM_X5_go : Cond.instanceMethod yX5_go ∈ tW := tb_2 (i := 149) rfl rfl
theorem se_X5_go : Cond.selects RX5 yX5_go yX5_go ∈ tW := tb_2 (i := 150) rfl rfl
theorem cd_X5_count : Cond.code yX5_count cX5_count 2 (some .int) ∈ tW := tb_2 (i := 179) rfl rfl
theorem iM_X5_count : Cond.instanceMethod yX5_count ∈ tW := tb_2 (i := 177) rfl rfl
theorem se_X5_count : Cond.selects RX5 yX5_count yX5_count ∈ tW := tb_2 (i := 178) rfl rfl
theorem cd_X5_beats : Cond.code yX5_beats cX5_beats 3 (some .int) ∈ tW := tb_2 (i := 193) rfl rfl
theorem iM_X5_beats : Cond.instanceMethod yX5_beats ∈ tW := tb_2 (i := 191) rfl rfl
theorem se_X5_beats : Cond.selects RX5 yX5_beats yX5_beats ∈ tW := tb_2 (i := 192) rfl rfl
theorem cd_X5_step : Cond.code yX5_step cX5_step 2 (some .int) ∈ tW := tb_2 (i := 198) rfl rfl
theorem iM_X5_step : Cond.instanceMethod yX5_step ∈ tW := tb_2 (i := 196) rfl rfl
theorem se_X5_step : Cond.selects RX5 yX5_step yX5_step ∈ tW := tb_2 (i := 197) rfl rfl
theorem cd_X5_arc : Cond.code yX5_arc cX5_arc 2 (some .int) ∈ tW := tb_2 (i := 210) rfl rfl
theorem iM_X5_arc : Cond.instanceMethod yX5_arc ∈ tW := tb_2 (i := 208) rfl rfl
theorem se_X5_arc : Cond.selects RX5 yX5_arc yX5_arc ∈ tW := tb_2 (i := 209) rfl rfl
theorem cd_X5_round : Cond.code yX5_round cX5_round 4 (some .int) ∈ tW := tb_2 (i := 228) rfl rfl
theorem iM_X5_round : Cond.instanceMethod yX5_round ∈ tW := tb_2 (i := 226) rfl rfl
theorem se_X5_round : Cond.selects RX5 yX5_round yX5_round ∈ tW := tb_2 (i := 227) rfl rfl
theorem cd_X5_meet : Cond.code yX5_meet cX5_meet 3 (some .int) ∈ tW := tb_3 (i := 48) rfl rfl
theorem iM_X5_meet : Cond.instanceMethod yX5_meet ∈ tW := tb_3 (i := 46) rfl rfl
theorem se_X5_meet : Cond.selects RX5 yX5_meet yX5_meet ∈ tW := tb_3 (i := 47) rfl rfl
theorem cd_X5_ends : Cond.code yX5_ends cX5_ends 2 (some .int) ∈ tW := tb_3 (i := 52) rfl rfl
theorem iM_X5_ends : Cond.instanceMethod yX5_ends ∈ tW := tb_3 (i := 50) rfl rfl
theorem se_X5_ends : Cond.selects RX5 yX5_ends yX5_ends ∈ tW := tb_3 (i := 51) rfl rfl
theorem cd_X5_end : Cond.code yX5_end cX5_end 3 (some .int) ∈ tW := tb_3 (i := 96) rfl rfl
theorem iM_X5_end : Cond.instanceMethod yX5_end ∈ tW := tb_3 (i := 94) rfl rfl
theorem se_X5_end : Cond.selects RX5 yX5_end yX5_end ∈ tW := tb_3 (i := 95) rfl rfl
theorem cd_X5_sure : Cond.code yX5_sure cX5_sure 3 (some .int) ∈ tW := tb_3 (i := 104) rfl rfl
theorem iM_X5_sure : Cond.instanceMethod yX5_sure ∈ tW := tb_3 (i := 102) rfl rfl
theorem se_X5_sure : Cond.selects RX5 yX5_sure yX5_sure ∈ tW := tb_3 (i := 103) rfl rfl
theorem cd_X5_lead : Cond.code yX5_lead cX5_lead 1 (some .int) ∈ tW := tb_3 (i := 121) rfl rfl
theorem iM_X5_lead : Cond.instanceMethod yX5_lead ∈ tW := tb_3 (i := 119) rfl rfl
theorem se_X5_lead : Cond.selects RX5 yX5_lead yX5_lead ∈ tW := tb_3 (i := 120) rfl rfl
theorem cd_X5_leader : Cond.code yX5_leader cX5_leader 2 (some .int) ∈ tW := tb_3 (i := 141) rfl rfl
theorem iM_X5_leader : Cond.instanceMethod yX5_leader ∈ tW := tb_3 (i := 139) rfl rfl
theorem se_X5_leader : Cond.selects RX5 yX5_leader yX5_leader ∈ tW := tb_3 (i := 140) rfl rfl
theorem cd_X5_table : Cond.code yX5_table cX5_table 2 (some .boolean) ∈ tW := tb_3 (i := 145) rfl rfl
theorem iM_X5_table : Cond.instanceMethod yX5_table ∈ tW := tb_3 (i := 143) rfl rfl
theorem se_X5_table : Cond.selects RX5 yX5_table yX5_table ∈ tW := tb_3 (i := 144) rfl rfl
theorem cd_X5_span : Cond.code yX5_span cX5_span 4 (some .boolean) ∈ tW := tb_3 (i := 153) rfl rfl
theorem iM_X5_span : Cond.instanceMethod yX5_span ∈ tW := tb_3 (i := 151) rfl rfl
theorem se_X5_span : Cond.selects RX5 yX5_span yX5_span ∈ tW := tb_3 (i := 152) rfl rfl
theorem cd_X5_cut : Cond.code yX5_cut cX5_cut 3 (some .boolean) ∈ tW := tb_3 (i := 170) rfl rfl
theorem iM_X5_cut : Cond.instanceMethod yX5_cut ∈ tW := tb_3 (i := 168) rfl rfl
theorem se_X5_cut : Cond.selects RX5 yX5_cut yX5_cut ∈ tW := tb_3 (i := 169) rfl rfl
theorem cd_X5_pace : Cond.code yX5_pace cX5_pace 2 (some .long) ∈ tW := tb_3 (i := 178) rfl rfl
theorem iM_X5_pace : Cond.instanceMethod yX5_pace ∈ tW := tb_3 (i := 176) rfl rfl
theorem se_X5_pace : Cond.selects RX5 yX5_pace yX5_pace ∈ tW := tb_3 (i := 177) rfl rfl
theorem cd_X5_critical : Cond.code yX5_critical cX5_critical 1 (some .int) ∈ tW := tb_3 (i := 207) rfl rfl
theorem iM_X5_critical : Cond.instanceMethod yX5_critical ∈ tW := tb_3 (i := 205) rfl rfl
theorem se_X5_critical : Cond.selects RX5 yX5_critical yX5_critical ∈ tW := tb_3 (i := 206) rfl rfl
theorem cd_X5_sums : Cond.code yX5_sums cX5_sums 5 (some .long) ∈ tW := tb_3 (i := 237) rfl rfl
theorem iM_X5_sums : Cond.instanceMethod yX5_sums ∈ tW := tb_3 (i := 235) rfl rfl
theorem se_X5_sums : Cond.selects RX5 yX5_sums yX5_sums ∈ tW := tb_3 (i := 236) rfl rfl
theorem cd_X5_longest : Cond.code yX5_longest cX5_longest 5 (some .long) ∈ tW := tb_4 (i := 20) rfl rfl
theorem iM_X5_longest : Cond.instanceMethod yX5_longest ∈ tW := tb_4 (i := 18) rfl rfl
theorem se_X5_longest : Cond.selects RX5 yX5_longest yX5_longest ∈ tW := tb_4 (i := 19) rfl rfl
theorem cd_X5_again : Cond.code yX5_again cX5_again 2 (some .int) ∈ tW := tb_4 (i := 28) rfl rfl
theorem iM_X5_again : Cond.instanceMethod yX5_again ∈ tW := tb_4 (i := 26) rfl rfl
theorem se_X5_again : Cond.selects RX5 yX5_again yX5_again ∈ tW := tb_4 (i := 27) rfl rfl
theorem cd_X5_out : Cond.code yX5_out cX5_out 2 (some .int) ∈ tW := tb_4 (i := 44) rfl rfl
theorem iM_X5_out : Cond.instanceMethod yX5_out ∈ tW := tb_4 (i := 42) rfl rfl
theorem se_X5_out : Cond.selects RX5 yX5_out yX5_out ∈ tW := tb_4 (i := 43) rfl rfl
theorem cd_X5_accept : Cond.code yX5_accept cX5_accept 1 (some .boolean) ∈ tW := tb_2 (i := 23) rfl rfl
theorem iM_X5_accept : Cond.instanceMethod yX5_accept ∈ tW := tb_2 (i := 22) rfl rfl
theorem se_X5_accept : Cond.selects RX5 yX5_accept yX5_accept ∈ tW := tW_in (i := 2) rfl rfl
theorem cd_X5_refuse : Cond.code yX5_refuse cX5_refuse 2 (some .boolean) ∈ tW := tb_2 (i := 14) rfl rfl
theorem iM_X5_refuse : Cond.instanceMethod yX5_refuse ∈ tW := tb_2 (i := 13) rfl rfl
theorem se_X5_refuse : Cond.selects RX5 yX5_refuse yX5_refuse ∈ tW := tW_in (i := 1) rfl rfl
theorem cd_X5_answer : Cond.code yX5_answer cX5_answer 2 (some .int) ∈ tW := tb_2 (i := 90) rfl rfl
theorem iM_X5_answer : Cond.instanceMethod yX5_answer ∈ tW := tb_2 (i := 89) rfl rfl
theorem se_X5_answer : Cond.selects RX5 yX5_answer yX5_answer ∈ tW := tW_in (i := 5) rfl rfl
theorem cd_X5_lack : Cond.code yX5_lack cX5_lack 2 (some .int) ∈ tW := tb_2 (i := 52) rfl rfl
theorem iM_X5_lack : Cond.instanceMethod yX5_lack ∈ tW := tb_2 (i := 51) rfl rfl
theorem se_X5_lack : Cond.selects RX5 yX5_lack yX5_lack ∈ tW := tW_in (i := 4) rfl rfl
theorem cd_X5_sumOrNone : Cond.code yX5_sumOrNone cX5_sumOrNone 3 (some .long) ∈ tW := tb_4 (i := 14) rfl rfl
theorem iM_X5_sumOrNone : Cond.instanceMethod yX5_sumOrNone ∈ tW := tb_4 (i := 13) rfl rfl
theorem se_X5_sumOrNone : Cond.selects RX5 yX5_sumOrNone yX5_sumOrNone ∈ tW := tW_in (i := 35) rfl rfl
theorem cd_X5_sheetAt : Cond.code yX5_sheetAt cX5_sheetAt 2 (some (.object "BeatBench$Sheet")) ∈ tW := tb_2 (i := 10) rfl rfl
theorem iM_X5_sheetAt : Cond.instanceMethod yX5_sheetAt ∈ tW := tb_2 (i := 9) rfl rfl
theorem se_X5_sheetAt : Cond.selects RX5 yX5_sheetAt yX5_sheetAt ∈ tW := tW_in (i := 0) rfl rfl
theorem cd_X5_isKind : Cond.code yX5_isKind cX5_isKind 1 (some .boolean) ∈ tW := tb_2 (i := 78) rfl rfl
theorem sM_X5_isKind : Cond.static yX5_isKind ∈ tW := tb_2 (i := 77) rfl rfl
theorem cd_X6_init : Cond.code yX6_init cX6_init 2 (none) ∈ tW := tb_4 (i := 115) rfl rfl
theorem iM_X6_init : Cond.instanceMethod yX6_init ∈ tW := tb_4 (i := 114) rfl rfl
theorem cd_X6_status : Cond.code yX6_status cX6_status 1 (some .int) ∈ tW := tb_5 (i := 18) rfl rfl
theorem iM_X6_status : Cond.instanceMethod yX6_status ∈ tW := tb_5 (i := 16) rfl rfl
theorem se_X6_status : Cond.selects RX6 yX6_status yX6_status ∈ tW := tb_5 (i := 17) rfl rfl
theorem cd_X6_refuse : Cond.code yX6_refuse cX6_refuse 2 (some .int) ∈ tW := tb_5 (i := 66) rfl rfl
theorem iM_X6_refuse : Cond.instanceMethod yX6_refuse ∈ tW := tb_5 (i := 65) rfl rfl
theorem se_X6_refuse : Cond.selects RX6 yX6_refuse yX6_refuse ∈ tW := tW_in (i := 42) rfl rfl
theorem cd_X6_no : Cond.code yX6_no cX6_no 2 (some .boolean) ∈ tW := tb_5 (i := 26) rfl rfl
theorem iM_X6_no : Cond.instanceMethod yX6_no ∈ tW := tb_5 (i := 25) rfl rfl
theorem se_X6_no : Cond.selects RX6 yX6_no yX6_no ∈ tW := tW_in (i := 38) rfl rfl
theorem cd_X6_cut : Cond.code yX6_cut cX6_cut 3 (some .long) ∈ tW := tb_5 (i := 41) rfl rfl
theorem sM_X6_cut : Cond.static yX6_cut ∈ tW := tb_5 (i := 40) rfl rfl
theorem cd_X6_sheet : Cond.code yX6_sheet cX6_sheet 5 (some .boolean) ∈ tW := tb_5 (i := 22) rfl rfl
theorem iM_X6_sheet : Cond.instanceMethod yX6_sheet ∈ tW := tb_5 (i := 20) rfl rfl
theorem se_X6_sheet : Cond.selects RX6 yX6_sheet yX6_sheet ∈ tW := tb_5 (i := 21) rfl rfl
theorem cd_X6_sheeted : Cond.code yX6_sheeted cX6_sheeted 2 (some .int) ∈ tW := tb_5 (i := 38) rfl rfl
theorem iM_X6_sheeted : Cond.instanceMethod yX6_sheeted ∈ tW := tb_5 (i := 37) rfl rfl
theorem se_X6_sheeted : Cond.selects RX6 yX6_sheeted yX6_sheeted ∈ tW := tW_in (i := 40) rfl rfl
theorem cd_X6_placed : Cond.code yX6_placed cX6_placed 4 (some .int) ∈ tW := tb_5 (i := 34) rfl rfl
theorem iM_X6_placed : Cond.instanceMethod yX6_placed ∈ tW := tb_5 (i := 33) rfl rfl
theorem se_X6_placed : Cond.selects RX6 yX6_placed yX6_placed ∈ tW := tW_in (i := 39) rfl rfl
theorem cd_X6_write : Cond.code yX6_write cX6_write 5 (some .boolean) ∈ tW := tb_5 (i := 30) rfl rfl
theorem iM_X6_write : Cond.instanceMethod yX6_write ∈ tW := tb_5 (i := 28) rfl rfl
theorem se_X6_write : Cond.selects RX6 yX6_write yX6_write ∈ tW := tb_5 (i := 29) rfl rfl
theorem cd_X6_read : Cond.code yX6_read cX6_read 3 (some .long) ∈ tW := tb_5 (i := 45) rfl rfl
theorem iM_X6_read : Cond.instanceMethod yX6_read ∈ tW := tb_5 (i := 43) rfl rfl
theorem se_X6_read : Cond.selects RX6 yX6_read yX6_read ∈ tW := tb_5 (i := 44) rfl rfl
theorem cd_X6_pour : Cond.code yX6_pour cX6_pour 9 (some .boolean) ∈ tW := tb_5 (i := 50) rfl rfl
theorem iM_X6_pour : Cond.instanceMethod yX6_pour ∈ tW := tb_5 (i := 48) rfl rfl
theorem se_X6_pour : Cond.selects RX6 yX6_pour yX6_pour ∈ tW := tb_5 (i := 49) rfl rfl
theorem cd_X6_ring : Cond.code yX6_ring cX6_ring 3 (some .boolean) ∈ tW := tb_5 (i := 54) rfl rfl
theorem iM_X6_ring : Cond.instanceMethod yX6_ring ∈ tW := tb_5 (i := 52) rfl rfl
theorem se_X6_ring : Cond.selects RX6 yX6_ring yX6_ring ∈ tW := tb_5 (i := 53) rfl rfl
theorem cd_X6_clears : Cond.code yX6_clears cX6_clears 2 (none) ∈ tW := tb_5 (i := 103) rfl rfl
theorem iM_X6_clears : Cond.instanceMethod yX6_clears ∈ tW := tb_5 (i := 102) rfl rfl
theorem se_X6_clears : Cond.selects RX6 yX6_clears yX6_clears ∈ tW := tW_in (i := 44) rfl rfl
theorem cd_X6_isBeater : Cond.code yX6_isBeater cX6_isBeater 2 (some .boolean) ∈ tW := tb_5 (i := 74) rfl rfl
theorem iM_X6_isBeater : Cond.instanceMethod yX6_isBeater ∈ tW := tb_5 (i := 73) rfl rfl
theorem se_X6_isBeater : Cond.selects RX6 yX6_isBeater yX6_isBeater ∈ tW := tW_in (i := 43) rfl rfl
theorem cd_X6_isPhase : Cond.code yX6_isPhase cX6_isPhase 3 (some .boolean) ∈ tW := tb_5 (i := 62) rfl rfl
theorem iM_X6_isPhase : Cond.instanceMethod yX6_isPhase ∈ tW := tb_5 (i := 61) rfl rfl
theorem se_X6_isPhase : Cond.selects RX6 yX6_isPhase yX6_isPhase ∈ tW := tW_in (i := 41) rfl rfl
theorem cd_X6_beater : Cond.code yX6_beater cX6_beater 3 (some .int) ∈ tW := tb_5 (i := 58) rfl rfl
theorem iM_X6_beater : Cond.instanceMethod yX6_beater ∈ tW := tb_5 (i := 56) rfl rfl
theorem se_X6_beater : Cond.selects RX6 yX6_beater yX6_beater ∈ tW := tb_5 (i := 57) rfl rfl
theorem cd_X6_kind : Cond.code yX6_kind cX6_kind 3 (some .boolean) ∈ tW := tb_5 (i := 70) rfl rfl
theorem iM_X6_kind : Cond.instanceMethod yX6_kind ∈ tW := tb_5 (i := 68) rfl rfl
theorem se_X6_kind : Cond.selects RX6 yX6_kind yX6_kind ∈ tW := tb_5 (i := 69) rfl rfl
theorem cd_X6_turn : Cond.code yX6_turn cX6_turn 3 (some .boolean) ∈ tW := tb_5 (i := 78) rfl rfl
theorem iM_X6_turn : Cond.instanceMethod yX6_turn ∈ tW := tb_5 (i := 76) rfl rfl
theorem se_X6_turn : Cond.selects RX6 yX6_turn yX6_turn ∈ tW := tb_5 (i := 77) rfl rfl
theorem cd_X6_phases : Cond.code yX6_phases cX6_phases 3 (some .boolean) ∈ tW := tb_5 (i := 82) rfl rfl
theorem iM_X6_phases : Cond.instanceMethod yX6_phases ∈ tW := tb_5 (i := 80) rfl rfl
theorem se_X6_phases : Cond.selects RX6 yX6_phases yX6_phases ∈ tW := tb_5 (i := 81) rfl rfl
theorem cd_X6_road : Cond.code yX6_road cX6_road 4 (some .boolean) ∈ tW := tb_5 (i := 86) rfl rfl
theorem iM_X6_road : Cond.instanceMethod yX6_road ∈ tW := tb_5 (i := 84) rfl rfl
theorem se_X6_road : Cond.selects RX6 yX6_road yX6_road ∈ tW := tb_5 (i := 85) rfl rfl
theorem cd_X6_roads : Cond.code yX6_roads cX6_roads 6 (some .boolean) ∈ tW := tb_5 (i := 90) rfl rfl
theorem iM_X6_roads : Cond.instanceMethod yX6_roads ∈ tW := tb_5 (i := 88) rfl rfl
theorem se_X6_roads : Cond.selects RX6 yX6_roads yX6_roads ∈ tW := tb_5 (i := 89) rfl rfl
theorem cd_X6_push : Cond.code yX6_push cX6_push 4 (some .boolean) ∈ tW := tb_5 (i := 94) rfl rfl
theorem iM_X6_push : Cond.instanceMethod yX6_push ∈ tW := tb_5 (i := 92) rfl rfl
theorem se_X6_push : Cond.selects RX6 yX6_push yX6_push ∈ tW := tb_5 (i := 93) rfl rfl
theorem cd_X6_clear : Cond.code yX6_clear cX6_clear 1 (some .boolean) ∈ tW := tb_5 (i := 99) rfl rfl
theorem iM_X6_clear : Cond.instanceMethod yX6_clear ∈ tW := tb_5 (i := 97) rfl rfl
theorem se_X6_clear : Cond.selects RX6 yX6_clear yX6_clear ∈ tW := tb_5 (i := 98) rfl rfl
theorem cd_X6_pulled : Cond.code yX6_pulled cX6_pulled 8 (some .int) ∈ tW := tb_5 (i := 115) rfl rfl
theorem iM_X6_pulled : Cond.instanceMethod yX6_pulled ∈ tW := tb_5 (i := 114) rfl rfl
theorem se_X6_pulled : Cond.selects RX6 yX6_pulled yX6_pulled ∈ tW := tW_in (i := 46) rfl rfl
theorem cd_X6_tick : Cond.code yX6_tick cX6_tick 6 (none) ∈ tW := tb_5 (i := 111) rfl rfl
theorem iM_X6_tick : Cond.instanceMethod yX6_tick ∈ tW := tb_5 (i := 110) rfl rfl
theorem se_X6_tick : Cond.selects RX6 yX6_tick yX6_tick ∈ tW := tW_in (i := 45) rfl rfl
theorem cd_X6_go : Cond.code yX6_go cX6_go 4 (some .boolean) ∈ tW := tb_5 (i := 107) rfl rfl
theorem iM_X6_go : Cond.instanceMethod yX6_go ∈ tW := tb_5 (i := 105) rfl rfl
theorem se_X6_go : Cond.selects RX6 yX6_go yX6_go ∈ tW := tb_5 (i := 106) rfl rfl
theorem cd_X6_count : Cond.code yX6_count cX6_count 4 (some .int) ∈ tW := tb_5 (i := 119) rfl rfl
theorem iM_X6_count : Cond.instanceMethod yX6_count ∈ tW := tb_5 (i := 117) rfl rfl
theorem se_X6_count : Cond.selects RX6 yX6_count yX6_count ∈ tW := tb_5 (i := 118) rfl rfl
theorem cd_X6_seenBy : Cond.code yX6_seenBy cX6_seenBy 4 (some .int) ∈ tW := tb_5 (i := 123) rfl rfl
theorem iM_X6_seenBy : Cond.instanceMethod yX6_seenBy ∈ tW := tb_5 (i := 122) rfl rfl
theorem se_X6_seenBy : Cond.selects RX6 yX6_seenBy yX6_seenBy ∈ tW := tW_in (i := 47) rfl rfl
theorem cd_X6_beats : Cond.code yX6_beats cX6_beats 3 (some .int) ∈ tW := tb_5 (i := 127) rfl rfl
theorem iM_X6_beats : Cond.instanceMethod yX6_beats ∈ tW := tb_5 (i := 125) rfl rfl
theorem se_X6_beats : Cond.selects RX6 yX6_beats yX6_beats ∈ tW := tb_5 (i := 126) rfl rfl
theorem cd_X6_isSet : Cond.code yX6_isSet cX6_isSet 2 (some .boolean) ∈ tW := tb_5 (i := 135) rfl rfl
theorem iM_X6_isSet : Cond.instanceMethod yX6_isSet ∈ tW := tb_5 (i := 134) rfl rfl
theorem se_X6_isSet : Cond.selects RX6 yX6_isSet yX6_isSet ∈ tW := tW_in (i := 48) rfl rfl
theorem cd_X6_isInStep : Cond.code yX6_isInStep cX6_isInStep 5 (some .boolean) ∈ tW := tb_5 (i := 139) rfl rfl
theorem iM_X6_isInStep : Cond.instanceMethod yX6_isInStep ∈ tW := tb_5 (i := 138) rfl rfl
theorem se_X6_isInStep : Cond.selects RX6 yX6_isInStep yX6_isInStep ∈ tW := tW_in (i := 49) rfl rfl
theorem cd_X6_step : Cond.code yX6_step cX6_step 2 (some .int) ∈ tW := tb_5 (i := 131) rfl rfl
theorem iM_X6_step : Cond.instanceMethod yX6_step ∈ tW := tb_5 (i := 129) rfl rfl
theorem se_X6_step : Cond.selects RX6 yX6_step yX6_step ∈ tW := tb_5 (i := 130) rfl rfl
theorem cd_X6_arc : Cond.code yX6_arc cX6_arc 6 (some .int) ∈ tW := tb_5 (i := 143) rfl rfl
theorem iM_X6_arc : Cond.instanceMethod yX6_arc ∈ tW := tb_5 (i := 141) rfl rfl
theorem se_X6_arc : Cond.selects RX6 yX6_arc yX6_arc ∈ tW := tb_5 (i := 142) rfl rfl
theorem cd_X6_begin : Cond.code yX6_begin cX6_begin 3 (none) ∈ tW := tb_5 (i := 157) rfl rfl
theorem iM_X6_begin : Cond.instanceMethod yX6_begin ∈ tW := tb_5 (i := 156) rfl rfl
theorem se_X6_begin : Cond.selects RX6 yX6_begin yX6_begin ∈ tW := tW_in (i := 51) rfl rfl
theorem cd_X6_isLike : Cond.code yX6_isLike cX6_isLike 4 (some .boolean) ∈ tW := tb_5 (i := 161) rfl rfl
theorem iM_X6_isLike : Cond.instanceMethod yX6_isLike ∈ tW := tb_5 (i := 160) rfl rfl
theorem se_X6_isLike : Cond.selects RX6 yX6_isLike yX6_isLike ∈ tW := tW_in (i := 52) rfl rfl
theorem cd_X6_rounds : Cond.code yX6_rounds cX6_rounds 4 (some .boolean) ∈ tW := tb_5 (i := 153) rfl rfl
theorem iM_X6_rounds : Cond.instanceMethod yX6_rounds ∈ tW := tb_5 (i := 152) rfl rfl
theorem se_X6_rounds : Cond.selects RX6 yX6_rounds yX6_rounds ∈ tW := tW_in (i := 50) rfl rfl
theorem cd_X6_round : Cond.code yX6_round cX6_round 2 (some .int) ∈ tW := tb_5 (i := 149) rfl rfl
theorem iM_X6_round : Cond.instanceMethod yX6_round ∈ tW := tb_5 (i := 147) rfl rfl
theorem se_X6_round : Cond.selects RX6 yX6_round yX6_round ∈ tW := tb_5 (i := 148) rfl rfl
theorem cd_X6_meet : Cond.code yX6_meet cX6_meet 5 (some .int) ∈ tW := tb_5 (i := 166) rfl rfl
theorem iM_X6_meet : Cond.instanceMethod yX6_meet ∈ tW := tb_5 (i := 164) rfl rfl
theorem se_X6_meet : Cond.selects RX6 yX6_meet yX6_meet ∈ tW := tb_5 (i := 165) rfl rfl
theorem cd_X6_states : Cond.code yX6_states cX6_states 3 (some .int) ∈ tW := tb_5 (i := 174) rfl rfl
theorem iM_X6_states : Cond.instanceMethod yX6_states ∈ tW := tb_5 (i := 173) rfl rfl
theorem se_X6_states : Cond.selects RX6 yX6_states yX6_states ∈ tW := tW_in (i := 53) rfl rfl
theorem cd_X6_stateTo : Cond.code yX6_stateTo cX6_stateTo 5 (none) ∈ tW := tb_5 (i := 183) rfl rfl
theorem iM_X6_stateTo : Cond.instanceMethod yX6_stateTo ∈ tW := tb_5 (i := 182) rfl rfl
theorem se_X6_stateTo : Cond.selects RX6 yX6_stateTo yX6_stateTo ∈ tW := tW_in (i := 55) rfl rfl
theorem cd_X6_numberOf : Cond.code yX6_numberOf cX6_numberOf 4 (some .int) ∈ tW := tb_5 (i := 187) rfl rfl
theorem iM_X6_numberOf : Cond.instanceMethod yX6_numberOf ∈ tW := tb_5 (i := 186) rfl rfl
theorem se_X6_numberOf : Cond.selects RX6 yX6_numberOf yX6_numberOf ∈ tW := tW_in (i := 56) rfl rfl
theorem cd_X6_fillEnds : Cond.code yX6_fillEnds cX6_fillEnds 6 (none) ∈ tW := tb_5 (i := 179) rfl rfl
theorem iM_X6_fillEnds : Cond.instanceMethod yX6_fillEnds ∈ tW := tb_5 (i := 178) rfl rfl
theorem se_X6_fillEnds : Cond.selects RX6 yX6_fillEnds yX6_fillEnds ∈ tW := tW_in (i := 54) rfl rfl
theorem cd_X6_ends : Cond.code yX6_ends cX6_ends 4 (some .int) ∈ tW := tb_5 (i := 170) rfl rfl
theorem iM_X6_ends : Cond.instanceMethod yX6_ends ∈ tW := tb_5 (i := 168) rfl rfl
theorem se_X6_ends : Cond.selects RX6 yX6_ends yX6_ends ∈ tW := tb_5 (i := 169) rfl rfl
theorem cd_X6_end : Cond.code yX6_end cX6_end 3 (some .int) ∈ tW := tb_5 (i := 191) rfl rfl
theorem iM_X6_end : Cond.instanceMethod yX6_end ∈ tW := tb_5 (i := 189) rfl rfl
theorem se_X6_end : Cond.selects RX6 yX6_end yX6_end ∈ tW := tb_5 (i := 190) rfl rfl
theorem cd_X6_sure : Cond.code yX6_sure cX6_sure 6 (some .int) ∈ tW := tb_5 (i := 195) rfl rfl
theorem iM_X6_sure : Cond.instanceMethod yX6_sure ∈ tW := tb_5 (i := 193) rfl rfl
theorem se_X6_sure : Cond.selects RX6 yX6_sure yX6_sure ∈ tW := tb_5 (i := 194) rfl rfl
theorem cd_X6_lead : Cond.code yX6_lead cX6_lead 4 (some .int) ∈ tW := tb_5 (i := 199) rfl rfl
theorem iM_X6_lead : Cond.instanceMethod yX6_lead ∈ tW := tb_5 (i := 197) rfl rfl
theorem se_X6_lead : Cond.selects RX6 yX6_lead yX6_lead ∈ tW := tb_5 (i := 198) rfl rfl
theorem cd_X6_leader : Cond.code yX6_leader cX6_leader 2 (some .int) ∈ tW := tb_5 (i := 203) rfl rfl
theorem iM_X6_leader : Cond.instanceMethod yX6_leader ∈ tW := tb_5 (i := 201) rfl rfl
theorem se_X6_leader : Cond.selects RX6 yX6_leader yX6_leader ∈ tW := tb_5 (i := 202) rfl rfl
theorem cd_X6_table : Cond.code yX6_table cX6_table 3 (some .boolean) ∈ tW := tb_5 (i := 207) rfl rfl
theorem iM_X6_table : Cond.instanceMethod yX6_table ∈ tW := tb_5 (i := 205) rfl rfl
theorem se_X6_table : Cond.selects RX6 yX6_table yX6_table ∈ tW := tb_5 (i := 206) rfl rfl
theorem cd_X6_isIn : Cond.code yX6_isIn cX6_isIn 3 (some .boolean) ∈ tW := tb_5 (i := 215) rfl rfl
theorem iM_X6_isIn : Cond.instanceMethod yX6_isIn ∈ tW := tb_5 (i := 214) rfl rfl
theorem se_X6_isIn : Cond.selects RX6 yX6_isIn yX6_isIn ∈ tW := tW_in (i := 57) rfl rfl
theorem cd_X6_span : Cond.code yX6_span cX6_span 4 (some .boolean) ∈ tW := tb_5 (i := 211) rfl rfl
theorem iM_X6_span : Cond.instanceMethod yX6_span ∈ tW := tb_5 (i := 209) rfl rfl
theorem se_X6_span : Cond.selects RX6 yX6_span yX6_span ∈ tW := tb_5 (i := 210) rfl rfl
theorem cd_X6_cut_ : Cond.code yX6_cut_ cX6_cut_ 3 (some .boolean) ∈ tW := tb_5 (i := 221) rfl rfl
theorem iM_X6_cut_ : Cond.instanceMethod yX6_cut_ ∈ tW := tb_5 (i := 219) rfl rfl
theorem se_X6_cut_ : Cond.selects RX6 yX6_cut_ yX6_cut_ ∈ tW := tb_5 (i := 220) rfl rfl
theorem cd_X6_multiply : Cond.code yX6_multiply cX6_multiply 13 (none) ∈ tW := tb_6 (i := 1) rfl rfl
theorem iM_X6_multiply : Cond.instanceMethod yX6_multiply ∈ tW := tb_6 (i := 0) rfl rfl
theorem se_X6_multiply : Cond.selects RX6 yX6_multiply yX6_multiply ∈ tW := tW_in (i := 61) rfl rfl
theorem cd_X6_unit : Cond.code yX6_unit cX6_unit 5 (none) ∈ tW := tb_5 (i := 237) rfl rfl
theorem iM_X6_unit : Cond.instanceMethod yX6_unit ∈ tW := tb_5 (i := 236) rfl rfl
theorem se_X6_unit : Cond.selects RX6 yX6_unit yX6_unit ∈ tW := tW_in (i := 60) rfl rfl
theorem cd_X6_fillPowers : Cond.code yX6_fillPowers cX6_fillPowers 4 (none) ∈ tW := tb_5 (i := 233) rfl rfl
theorem iM_X6_fillPowers : Cond.instanceMethod yX6_fillPowers ∈ tW := tb_5 (i := 232) rfl rfl
theorem se_X6_fillPowers : Cond.selects RX6 yX6_fillPowers yX6_fillPowers ∈ tW := tW_in (i := 59) rfl rfl
theorem cd_X6_common : Cond.code yX6_common cX6_common 10 (some .long) ∈ tW := tb_6 (i := 5) rfl rfl
theorem sM_X6_common : Cond.static yX6_common ∈ tW := tb_6 (i := 4) rfl rfl
theorem cd_X6_paces : Cond.code yX6_paces cX6_paces 5 (some .boolean) ∈ tW := tb_5 (i := 229) rfl rfl
theorem iM_X6_paces : Cond.instanceMethod yX6_paces ∈ tW := tb_5 (i := 228) rfl rfl
theorem se_X6_paces : Cond.selects RX6 yX6_paces yX6_paces ∈ tW := tW_in (i := 58) rfl rfl
theorem cd_X6_pace : Cond.code yX6_pace cX6_pace 2 (some .long) ∈ tW := tb_5 (i := 225) rfl rfl
theorem iM_X6_pace : Cond.instanceMethod yX6_pace ∈ tW := tb_5 (i := 223) rfl rfl
theorem se_X6_pace : Cond.selects RX6 yX6_pace yX6_pace ∈ tW := tb_5 (i := 224) rfl rfl
theorem cd_X6_critical : Cond.code yX6_critical cX6_critical 9 (some .int) ∈ tW := tb_6 (i := 12) rfl rfl
theorem iM_X6_critical : Cond.instanceMethod yX6_critical ∈ tW := tb_6 (i := 10) rfl rfl
theorem se_X6_critical : Cond.selects RX6 yX6_critical yX6_critical ∈ tW := tb_6 (i := 11) rfl rfl
theorem cd_X6_isPace : Cond.code yX6_isPace cX6_isPace 4 (some .boolean) ∈ tW := tb_6 (i := 16) rfl rfl
theorem iM_X6_isPace : Cond.instanceMethod yX6_isPace ∈ tW := tb_6 (i := 15) rfl rfl
theorem se_X6_isPace : Cond.selects RX6 yX6_isPace yX6_isPace ∈ tW := tW_in (i := 62) rfl rfl
theorem cd_X6_goes : Cond.code yX6_goes cX6_goes 11 (some .boolean) ∈ tW := tb_6 (i := 20) rfl rfl
theorem iM_X6_goes : Cond.instanceMethod yX6_goes ∈ tW := tb_6 (i := 19) rfl rfl
theorem se_X6_goes : Cond.selects RX6 yX6_goes yX6_goes ∈ tW := tW_in (i := 63) rfl rfl
theorem cd_X6_sums : Cond.code yX6_sums cX6_sums 7 (some .long) ∈ tW := tb_6 (i := 24) rfl rfl
theorem iM_X6_sums : Cond.instanceMethod yX6_sums ∈ tW := tb_6 (i := 22) rfl rfl
theorem se_X6_sums : Cond.selects RX6 yX6_sums yX6_sums ∈ tW := tb_6 (i := 23) rfl rfl
theorem cd_X6_longest : Cond.code yX6_longest cX6_longest 8 (some .long) ∈ tW := tb_6 (i := 29) rfl rfl
theorem iM_X6_longest : Cond.instanceMethod yX6_longest ∈ tW := tb_6 (i := 27) rfl rfl
theorem se_X6_longest : Cond.selects RX6 yX6_longest yX6_longest ∈ tW := tb_6 (i := 28) rfl rfl
theorem cd_X6_again : Cond.code yX6_again cX6_again 4 (some .int) ∈ tW := tb_6 (i := 33) rfl rfl
theorem iM_X6_again : Cond.instanceMethod yX6_again ∈ tW := tb_6 (i := 31) rfl rfl
theorem se_X6_again : Cond.selects RX6 yX6_again yX6_again ∈ tW := tb_6 (i := 32) rfl rfl
theorem cd_X6_isAgain : Cond.code yX6_isAgain cX6_isAgain 11 (some .boolean) ∈ tW := tb_6 (i := 37) rfl rfl
theorem iM_X6_isAgain : Cond.instanceMethod yX6_isAgain ∈ tW := tb_6 (i := 36) rfl rfl
theorem se_X6_isAgain : Cond.selects RX6 yX6_isAgain yX6_isAgain ∈ tW := tW_in (i := 64) rfl rfl
theorem cd_X6_out : Cond.code yX6_out cX6_out 2 (some .int) ∈ tW := tb_6 (i := 41) rfl rfl
theorem iM_X6_out : Cond.instanceMethod yX6_out ∈ tW := tb_6 (i := 39) rfl rfl
theorem se_X6_out : Cond.selects RX6 yX6_out yX6_out ∈ tW := tb_6 (i := 40) rfl rfl
theorem cd_J6_numberOfTrailingZeros_0f7a4 : Cond.code yJ6_numberOfTrailingZeros_0f7a4 cJ6_numberOfTrailingZeros_0f7a4 2 (some .int) ∈ tW := tb_3 (i := 132) rfl rfl
theorem sM_J6_numberOfTrailingZeros_0f7a4 : Cond.static yJ6_numberOfTrailingZeros_0f7a4 ∈ tW := tb_3 (i := 131) rfl rfl
theorem cd_J6_bitCount_0f7a4 : Cond.code yJ6_bitCount_0f7a4 cJ6_bitCount_0f7a4 1 (some .int) ∈ tW := tb_2 (i := 186) rfl rfl
theorem sM_J6_bitCount_0f7a4 : Cond.static yJ6_bitCount_0f7a4 ∈ tW := tb_2 (i := 185) rfl rfl
theorem cd_J7_fill_d0a16 : Cond.code yJ7_fill_d0a16 cJ7_fill_d0a16 5 (none) ∈ tW := tb_1 (i := 143) rfl rfl
theorem sM_J7_fill_d0a16 : Cond.static yJ7_fill_d0a16 ∈ tW := tb_1 (i := 142) rfl rfl
theorem cd_J7_fill_53178 : Cond.code yJ7_fill_53178 cJ7_fill_53178 4 (none) ∈ tW := tb_2 (i := 147) rfl rfl
theorem sM_J7_fill_53178 : Cond.static yJ7_fill_53178 ∈ tW := tb_2 (i := 146) rfl rfl
theorem cd_J7_copyOf_59c91 : Cond.code yJ7_copyOf_59c91 cJ7_copyOf_59c91 3 (some (.array .int)) ∈ tW := tb_3 (i := 9) rfl rfl
theorem sM_J7_copyOf_59c91 : Cond.static yJ7_copyOf_59c91 ∈ tW := tb_3 (i := 8) rfl rfl
theorem cd_J7_copyOf_c38d5 : Cond.code yJ7_copyOf_c38d5 cJ7_copyOf_c38d5 3 (some (.array .long)) ∈ tW := tb_3 (i := 21) rfl rfl
theorem sM_J7_copyOf_c38d5 : Cond.static yJ7_copyOf_c38d5 ∈ tW := tb_3 (i := 20) rfl rfl
theorem wo_X5_1 : Cond.methodLink RX5 1 Lib.objectInit ∈ tW := tb_1 (i := 21) rfl rfl
theorem lc_X5_13 : Cond.classLink RX5 13 RX2 ∈ tW := tb_1 (i := 24) rfl rfl
theorem lc_X5_19 : Cond.classLink RX5 19 RX0 ∈ tW := tb_1 (i := 26) rfl rfl
theorem wc_X5_21 : wC RX5 m_X0_init 21 0 := ⟨tb_1 (i := 28) rfl rfl, cd_X0_init, tb_1 (i := 2) rfl rfl, ⟨by decide +kernel, by decide +kernel⟩, by decide +kernel, by decide, by decide +kernel⟩
theorem wo_X0_3 : Cond.methodLink RX0 3 Lib.objectInit ∈ tW := tb_1 (i := 31) rfl rfl
theorem lf_X0_9 : Cond.fieldLink RX0 9 RX0 (TX0 0).2.1 (TX0 0).2.2.1 ∈ tW := tb_1 (i := 32) rfl rfl
theorem lf_X5_138 : Cond.fieldLinkNest RX5 138 RX0 (TX0 0).2.1 (TX0 0).2.2.1 "BeatBench" ∈ nW := tn_1 (i := 33) rfl rfl
theorem lf_X0_15 : Cond.fieldLink RX0 15 RX0 (TX0 1).2.1 (TX0 1).2.2.1 ∈ tW := tb_1 (i := 34) rfl rfl
theorem lf_X5_119 : Cond.fieldLinkNest RX5 119 RX0 (TX0 1).2.1 (TX0 1).2.2.1 "BeatBench" ∈ nW := tn_1 (i := 35) rfl rfl
theorem lf_X0_18 : Cond.fieldLink RX0 18 RX0 (TX0 2).2.1 (TX0 2).2.2.1 ∈ tW := tb_1 (i := 36) rfl rfl
theorem lf_X5_164 : Cond.fieldLinkNest RX5 164 RX0 (TX0 2).2.1 (TX0 2).2.2.1 "BeatBench" ∈ nW := tn_1 (i := 37) rfl rfl
theorem lf_X0_21 : Cond.fieldLink RX0 21 RX0 (TX0 3).2.1 (TX0 3).2.2.1 ∈ tW := tb_1 (i := 38) rfl rfl
theorem lf_X5_132 : Cond.fieldLinkNest RX5 132 RX0 (TX0 3).2.1 (TX0 3).2.2.1 "BeatBench" ∈ nW := tn_1 (i := 39) rfl rfl
theorem lf_X0_25 : Cond.fieldLink RX0 25 RX0 (TX0 4).2.1 (TX0 4).2.2.1 ∈ tW := tb_1 (i := 40) rfl rfl
theorem lf_X5_135 : Cond.fieldLinkNest RX5 135 RX0 (TX0 4).2.1 (TX0 4).2.2.1 "BeatBench" ∈ nW := tn_1 (i := 41) rfl rfl
theorem lf_X0_28 : Cond.fieldLink RX0 28 RX0 (TX0 5).2.1 (TX0 5).2.2.1 ∈ tW := tb_1 (i := 42) rfl rfl
theorem lf_X5_167 : Cond.fieldLinkNest RX5 167 RX0 (TX0 5).2.1 (TX0 5).2.2.1 "BeatBench" ∈ nW := tn_1 (i := 43) rfl rfl
theorem lf_X0_31 : Cond.fieldLink RX0 31 RX0 (TX0 6).2.1 (TX0 6).2.2.1 ∈ tW := tb_1 (i := 44) rfl rfl
theorem lf_X5_183 : Cond.fieldLinkNest RX5 183 RX0 (TX0 6).2.1 (TX0 6).2.2.1 "BeatBench" ∈ nW := tn_1 (i := 45) rfl rfl
theorem lf_X0_34 : Cond.fieldLink RX0 34 RX0 (TX0 7).2.1 (TX0 7).2.2.1 ∈ tW := tb_1 (i := 46) rfl rfl
theorem lf_X5_158 : Cond.fieldLinkNest RX5 158 RX0 (TX0 7).2.1 (TX0 7).2.2.1 "BeatBench" ∈ nW := tn_1 (i := 47) rfl rfl
theorem lf_X0_37 : Cond.fieldLink RX0 37 RX0 (TX0 8).2.1 (TX0 8).2.2.1 ∈ tW := tb_1 (i := 48) rfl rfl
theorem lf_X5_161 : Cond.fieldLinkNest RX5 161 RX0 (TX0 8).2.1 (TX0 8).2.2.1 "BeatBench" ∈ nW := tn_1 (i := 49) rfl rfl
theorem lf_X0_40 : Cond.fieldLink RX0 40 RX0 (TX0 9).2.1 (TX0 9).2.2.1 ∈ tW := tb_1 (i := 50) rfl rfl
theorem lf_X0_43 : Cond.fieldLink RX0 43 RX0 (TX0 10).2.1 (TX0 10).2.2.1 ∈ tW := tb_1 (i := 51) rfl rfl
theorem lf_X0_46 : Cond.fieldLink RX0 46 RX0 (TX0 11).2.1 (TX0 11).2.2.1 ∈ tW := tb_1 (i := 52) rfl rfl
theorem lf_X0_49 : Cond.fieldLink RX0 49 RX0 (TX0 12).2.1 (TX0 12).2.2.1 ∈ tW := tb_1 (i := 53) rfl rfl
theorem lf_X5_207 : Cond.fieldLinkNest RX5 207 RX0 (TX0 12).2.1 (TX0 12).2.2.1 "BeatBench" ∈ nW := tn_1 (i := 54) rfl rfl
theorem lf_X0_52 : Cond.fieldLink RX0 52 RX0 (TX0 13).2.1 (TX0 13).2.2.1 ∈ tW := tb_1 (i := 55) rfl rfl
theorem lc_X5_26 : Cond.classLink RX5 26 RX4 ∈ tW := tb_1 (i := 86) rfl rfl
theorem wc_X5_28 : wN RX5 m_X4_init 28 0 "BeatBench" := ⟨tn_1 (i := 88) rfl rfl, cd_X4_init, tb_1 (i := 3) rfl rfl, ⟨by decide +kernel, by decide +kernel⟩, by decide +kernel, by decide, by decide +kernel⟩
theorem wo_X4_3 : Cond.methodLink RX4 3 Lib.objectInit ∈ tW := tb_1 (i := 91) rfl rfl
theorem lf_X4_9 : Cond.fieldLink RX4 9 RX4 (TX4 0).2.1 (TX4 0).2.2.1 ∈ tW := tb_1 (i := 92) rfl rfl
theorem lf_X4_15 : Cond.fieldLink RX4 15 RX4 (TX4 1).2.1 (TX4 1).2.2.1 ∈ tW := tb_1 (i := 93) rfl rfl
theorem lf_X4_18 : Cond.fieldLink RX4 18 RX4 (TX4 2).2.1 (TX4 2).2.2.1 ∈ tW := tb_1 (i := 94) rfl rfl
theorem lf_X4_22 : Cond.fieldLink RX4 22 RX4 (TX4 3).2.1 (TX4 3).2.2.1 ∈ tW := tb_1 (i := 95) rfl rfl
theorem lf_X4_26 : Cond.fieldLink RX4 26 RX4 (TX4 4).2.1 (TX4 4).2.2.1 ∈ tW := tb_1 (i := 96) rfl rfl
theorem lc_X5_33 : Cond.classLink RX5 33 RX1 ∈ tW := tb_1 (i := 109) rfl rfl
theorem wc_X5_35 : wN RX5 m_X1_init 35 0 "BeatBench" := ⟨tn_1 (i := 111) rfl rfl, cd_X1_init, tb_1 (i := 4) rfl rfl, ⟨by decide +kernel, by decide +kernel⟩, by decide +kernel, by decide, by decide +kernel⟩
theorem wo_X1_3 : Cond.methodLink RX1 3 Lib.objectInit ∈ tW := tb_1 (i := 114) rfl rfl
theorem lf_X1_9 : Cond.fieldLink RX1 9 RX1 (TX1 0).2.1 (TX1 0).2.2.1 ∈ tW := tb_1 (i := 115) rfl rfl
theorem lf_X1_15 : Cond.fieldLink RX1 15 RX1 (TX1 1).2.1 (TX1 1).2.2.1 ∈ tW := tb_1 (i := 116) rfl rfl
theorem lf_X1_18 : Cond.fieldLink RX1 18 RX1 (TX1 2).2.1 (TX1 2).2.2.1 ∈ tW := tb_1 (i := 117) rfl rfl
theorem lf_X1_21 : Cond.fieldLink RX1 21 RX1 (TX1 3).2.1 (TX1 3).2.2.1 ∈ tW := tb_1 (i := 118) rfl rfl
theorem lf_X1_24 : Cond.fieldLink RX1 24 RX1 (TX1 4).2.1 (TX1 4).2.2.1 ∈ tW := tb_1 (i := 119) rfl rfl
theorem lf_X5_227 : Cond.fieldLinkNest RX5 227 RX1 (TX1 4).2.1 (TX1 4).2.2.1 "BeatBench" ∈ nW := tn_1 (i := 120) rfl rfl
theorem lc_X5_40 : Cond.classLink RX5 40 RX3 ∈ tW := tb_1 (i := 132) rfl rfl
theorem wc_X5_42 : wC RX5 m_X3_init 42 0 := ⟨tb_1 (i := 134) rfl rfl, cd_X3_init, tb_1 (i := 5) rfl rfl, ⟨by decide +kernel, by decide +kernel⟩, by decide +kernel, by decide, by decide +kernel⟩
theorem wo_X3_3 : Cond.methodLink RX3 3 Lib.objectInit ∈ tW := tb_1 (i := 137) rfl rfl
theorem lc_X3_37 : Cond.classLink RX3 37 "[[J" ∈ tW := tb_1 (i := 138) rfl rfl
theorem lk_X3_58 : Cond.constantLong RX3 58 (-9223372036854775808) ∈ tW := tb_1 (i := 140) rfl rfl
theorem wc_X3_60 : wC RX3 m_J7_fill_d0a16 60 2 := ⟨tb_1 (i := 141) rfl rfl, cd_J7_fill_d0a16, tb_1 (i := 6) rfl rfl, ⟨by decide +kernel, by decide +kernel⟩, by decide +kernel, by decide, by decide +kernel⟩
theorem lf_X3_9 : Cond.fieldLink RX3 9 RX3 (TX3 0).2.1 (TX3 0).2.2.1 ∈ tW := tb_1 (i := 144) rfl rfl
theorem lf_X3_15 : Cond.fieldLink RX3 15 RX3 (TX3 1).2.1 (TX3 1).2.2.1 ∈ tW := tb_1 (i := 145) rfl rfl
theorem lf_X3_19 : Cond.fieldLink RX3 19 RX3 (TX3 2).2.1 (TX3 2).2.2.1 ∈ tW := tb_1 (i := 146) rfl rfl
theorem lf_X3_22 : Cond.fieldLink RX3 22 RX3 (TX3 3).2.1 (TX3 3).2.2.1 ∈ tW := tb_1 (i := 147) rfl rfl
theorem lf_X3_25 : Cond.fieldLink RX3 25 RX3 (TX3 4).2.1 (TX3 4).2.2.1 ∈ tW := tb_1 (i := 148) rfl rfl
theorem lf_X3_28 : Cond.fieldLink RX3 28 RX3 (TX3 5).2.1 (TX3 5).2.2.1 ∈ tW := tb_1 (i := 149) rfl rfl
theorem lf_X3_31 : Cond.fieldLink RX3 31 RX3 (TX3 6).2.1 (TX3 6).2.2.1 ∈ tW := tb_1 (i := 150) rfl rfl
theorem lf_X3_34 : Cond.fieldLink RX3 34 RX3 (TX3 7).2.1 (TX3 7).2.2.1 ∈ tW := tb_1 (i := 151) rfl rfl
theorem lf_X3_39 : Cond.fieldLink RX3 39 RX3 (TX3 8).2.1 (TX3 8).2.2.1 ∈ tW := tb_1 (i := 152) rfl rfl
theorem lf_X3_42 : Cond.fieldLink RX3 42 RX3 (TX3 9).2.1 (TX3 9).2.2.1 ∈ tW := tb_1 (i := 153) rfl rfl
theorem lf_X5_253 : Cond.fieldLinkNest RX5 253 RX3 (TX3 9).2.1 (TX3 9).2.2.1 "BeatBench" ∈ nW := tn_1 (i := 154) rfl rfl
theorem lf_X3_46 : Cond.fieldLink RX3 46 RX3 (TX3 10).2.1 (TX3 10).2.2.1 ∈ tW := tb_1 (i := 155) rfl rfl
theorem lf_X5_257 : Cond.fieldLinkNest RX5 257 RX3 (TX3 10).2.1 (TX3 10).2.2.1 "BeatBench" ∈ nW := tn_1 (i := 156) rfl rfl
theorem lf_X3_49 : Cond.fieldLink RX3 49 RX3 (TX3 11).2.1 (TX3 11).2.2.1 ∈ tW := tb_1 (i := 157) rfl rfl
theorem lf_X3_52 : Cond.fieldLink RX3 52 RX3 (TX3 12).2.1 (TX3 12).2.2.1 ∈ tW := tb_1 (i := 158) rfl rfl
theorem lf_X5_282 : Cond.fieldLinkNest RX5 282 RX3 (TX3 12).2.1 (TX3 12).2.2.1 "BeatBench" ∈ nW := tn_1 (i := 159) rfl rfl
theorem lf_X3_55 : Cond.fieldLink RX3 55 RX3 (TX3 13).2.1 (TX3 13).2.2.1 ∈ tW := tb_1 (i := 160) rfl rfl
theorem lf_X5_285 : Cond.fieldLinkNest RX5 285 RX3 (TX3 13).2.1 (TX3 13).2.2.1 "BeatBench" ∈ nW := tn_1 (i := 161) rfl rfl
theorem wc_X5_60 : wN RX5 m_X2_init 60 0 "BeatBench" := ⟨tn_1 (i := 192) rfl rfl, cd_X2_init, tb_1 (i := 7) rfl rfl, ⟨by decide +kernel, by decide +kernel⟩, by decide +kernel, by decide, by decide +kernel⟩
theorem wo_X2_3 : Cond.methodLink RX2 3 Lib.objectInit ∈ tW := tb_1 (i := 195) rfl rfl
theorem lf_X2_9 : Cond.fieldLink RX2 9 RX2 (TX2 0).2.1 (TX2 0).2.2.1 ∈ tW := tb_1 (i := 196) rfl rfl
theorem lf_X5_96 : Cond.fieldLinkNest RX5 96 RX2 (TX2 0).2.1 (TX2 0).2.2.1 "BeatBench" ∈ nW := tn_1 (i := 197) rfl rfl
theorem lf_X2_15 : Cond.fieldLink RX2 15 RX2 (TX2 1).2.1 (TX2 1).2.2.1 ∈ tW := tb_1 (i := 198) rfl rfl
theorem lf_X2_18 : Cond.fieldLink RX2 18 RX2 (TX2 2).2.1 (TX2 2).2.2.1 ∈ tW := tb_1 (i := 199) rfl rfl
theorem lf_X5_99 : Cond.fieldLinkNest RX5 99 RX2 (TX2 2).2.1 (TX2 2).2.2.1 "BeatBench" ∈ nW := tn_1 (i := 200) rfl rfl
theorem lf_X5_9 : Cond.fieldLink RX5 9 RX5 (TX5 0).2.1 (TX5 0).2.2.1 ∈ tW := tb_1 (i := 208) rfl rfl
theorem lf_X5_15 : Cond.fieldLink RX5 15 RX5 (TX5 1).2.1 (TX5 1).2.2.1 ∈ tW := tb_1 (i := 209) rfl rfl
theorem lf_X5_22 : Cond.fieldLink RX5 22 RX5 (TX5 2).2.1 (TX5 2).2.2.1 ∈ tW := tb_1 (i := 210) rfl rfl
theorem lf_X5_29 : Cond.fieldLink RX5 29 RX5 (TX5 3).2.1 (TX5 3).2.2.1 ∈ tW := tb_1 (i := 211) rfl rfl
theorem lf_X5_36 : Cond.fieldLink RX5 36 RX5 (TX5 4).2.1 (TX5 4).2.2.1 ∈ tW := tb_1 (i := 212) rfl rfl
theorem lf_X5_43 : Cond.fieldLink RX5 43 RX5 (TX5 5).2.1 (TX5 5).2.2.1 ∈ tW := tb_1 (i := 213) rfl rfl
theorem lf_X5_47 : Cond.fieldLink RX5 47 RX5 (TX5 6).2.1 (TX5 6).2.2.1 ∈ tW := tb_1 (i := 214) rfl rfl
theorem lf_X5_51 : Cond.fieldLink RX5 51 RX5 (TX5 7).2.1 (TX5 7).2.2.1 ∈ tW := tb_1 (i := 215) rfl rfl
theorem lf_X5_54 : Cond.fieldLink RX5 54 RX5 (TX5 8).2.1 (TX5 8).2.2.1 ∈ tW := tb_1 (i := 216) rfl rfl
theorem lf_X5_57 : Cond.fieldLink RX5 57 RX5 (TX5 9).2.1 (TX5 9).2.2.1 ∈ tW := tb_1 (i := 217) rfl rfl
theorem wc_X5_61 : wC RX5 m_X5_sheetAt 61 1 := ⟨tb_2 (i := 7) rfl rfl, cd_X5_sheetAt, tb_1 (i := 1) rfl rfl, ⟨by decide +kernel, by decide +kernel⟩, by decide +kernel, by decide, by decide +kernel⟩
theorem wc_X5_65 : wC RX5 m_X5_refuse 65 1 := ⟨tb_2 (i := 11) rfl rfl, cd_X5_refuse, tb_1 (i := 1) rfl rfl, ⟨by decide +kernel, by decide +kernel⟩, by decide +kernel, by decide, by decide +kernel⟩
theorem wc_X5_69 : wC RX5 m_X2_make 69 2 := ⟨tb_2 (i := 15) rfl rfl, cd_X2_make, tb_1 (i := 7) rfl rfl, ⟨by decide +kernel, by decide +kernel⟩, by decide +kernel, by decide, by decide +kernel⟩
theorem wc_X2_22 : wC RX2 m_J7_fill_d0a16 22 2 := ⟨tb_2 (i := 19) rfl rfl, cd_J7_fill_d0a16, tb_1 (i := 6) rfl rfl, ⟨by decide +kernel, by decide +kernel⟩, by decide +kernel, by decide, by decide +kernel⟩
theorem wc_X5_73 : wC RX5 m_X5_accept 73 0 := ⟨tb_2 (i := 20) rfl rfl, cd_X5_accept, tb_1 (i := 1) rfl rfl, ⟨by decide +kernel, by decide +kernel⟩, by decide +kernel, by decide, by decide +kernel⟩
theorem wc_X5_77 : wC RX5 m_X2_isMissing 77 0 := ⟨tb_2 (i := 28) rfl rfl, cd_X2_isMissing, tb_1 (i := 7) rfl rfl, ⟨by decide +kernel, by decide +kernel⟩, by decide +kernel, by decide, by decide +kernel⟩
theorem wc_X5_80 : wC RX5 m_X2_hasPlaces 80 2 := ⟨tb_2 (i := 32) rfl rfl, cd_X2_hasPlaces, tb_1 (i := 7) rfl rfl, ⟨by decide +kernel, by decide +kernel⟩, by decide +kernel, by decide, by decide +kernel⟩
theorem wc_X5_84 : wC RX5 m_X2_put 84 2 := ⟨tb_2 (i := 36) rfl rfl, cd_X2_put, tb_1 (i := 7) rfl rfl, ⟨by decide +kernel, by decide +kernel⟩, by decide +kernel, by decide, by decide +kernel⟩
theorem wc_X2_28 : wC RX2 m_X2_hasPlaces 28 2 := ⟨tb_2 (i := 40) rfl rfl, cd_X2_hasPlaces, tb_1 (i := 7) rfl rfl, ⟨by decide +kernel, by decide +kernel⟩, by decide +kernel, by decide, by decide +kernel⟩
theorem wc_X2_32 : wC RX2 m_X2_cutToSort 32 1 := ⟨tb_2 (i := 41) rfl rfl, cd_X2_cutToSort, tb_1 (i := 7) rfl rfl, ⟨by decide +kernel, by decide +kernel⟩, by decide +kernel, by decide, by decide +kernel⟩
theorem wc_X5_88 : wC RX5 m_X5_lack 88 1 := ⟨tb_2 (i := 49) rfl rfl, cd_X5_lack, tb_1 (i := 1) rfl rfl, ⟨by decide +kernel, by decide +kernel⟩, by decide +kernel, by decide, by decide +kernel⟩
theorem wc_X5_92 : wC RX5 m_X2_at 92 1 := ⟨tb_2 (i := 53) rfl rfl, cd_X2_at, tb_1 (i := 7) rfl rfl, ⟨by decide +kernel, by decide +kernel⟩, by decide +kernel, by decide, by decide +kernel⟩
theorem wa_X5_103 : Cond.methodLink RX5 103 arraycopyName ∈ tW := tb_2 (i := 61) rfl rfl
theorem wc_X5_109 : wC RX5 m_X0_empty 109 1 := ⟨tb_2 (i := 68) rfl rfl, cd_X0_empty, tb_1 (i := 2) rfl rfl, ⟨by decide +kernel, by decide +kernel⟩, by decide +kernel, by decide, by decide +kernel⟩
theorem wc_X5_113 : wC RX5 m_X5_isKind 113 1 := ⟨tb_2 (i := 76) rfl rfl, cd_X5_isKind, tb_1 (i := 1) rfl rfl, ⟨by decide +kernel, by decide +kernel⟩, by decide +kernel, by decide, by decide +kernel⟩
theorem wc_X5_116 : wC RX5 m_X0_isPhase 116 1 := ⟨tb_2 (i := 79) rfl rfl, cd_X0_isPhase, tb_1 (i := 2) rfl rfl, ⟨by decide +kernel, by decide +kernel⟩, by decide +kernel, by decide, by decide +kernel⟩
theorem wc_X5_122 : wC RX5 m_X0_add 122 2 := ⟨tb_2 (i := 83) rfl rfl, cd_X0_add, tb_1 (i := 2) rfl rfl, ⟨by decide +kernel, by decide +kernel⟩, by decide +kernel, by decide, by decide +kernel⟩
theorem wc_X5_126 : wC RX5 m_X5_answer 126 1 := ⟨tb_2 (i := 87) rfl rfl, cd_X5_answer, tb_1 (i := 1) rfl rfl, ⟨by decide +kernel, by decide +kernel⟩, by decide +kernel, by decide, by decide +kernel⟩
theorem wc_X5_129 : wC RX5 m_X0_has 129 1 := ⟨tb_2 (i := 95) rfl rfl, cd_X0_has, tb_1 (i := 2) rfl rfl, ⟨by decide +kernel, by decide +kernel⟩, by decide +kernel, by decide, by decide +kernel⟩
theorem wc_X5_141 : wC RX5 m_X2_liesWithin 141 2 := ⟨tb_2 (i := 107) rfl rfl, cd_X2_liesWithin, tb_1 (i := 7) rfl rfl, ⟨by decide +kernel, by decide +kernel⟩, by decide +kernel, by decide, by decide +kernel⟩
theorem wc_X2_36 : wC RX2 m_X2_at 36 1 := ⟨tb_2 (i := 111) rfl rfl, cd_X2_at, tb_1 (i := 7) rfl rfl, ⟨by decide +kernel, by decide +kernel⟩, by decide +kernel, by decide, by decide +kernel⟩
theorem wc_X5_145 : wC RX5 m_X2_copyInts 145 2 := ⟨tb_2 (i := 112) rfl rfl, cd_X2_copyInts, tb_1 (i := 7) rfl rfl, ⟨by decide +kernel, by decide +kernel⟩, by decide +kernel, by decide, by decide +kernel⟩
theorem wc_X5_149 : wC RX5 m_X0_setRoad 149 3 := ⟨tb_2 (i := 120) rfl rfl, cd_X0_setRoad, tb_1 (i := 2) rfl rfl, ⟨by decide +kernel, by decide +kernel⟩, by decide +kernel, by decide, by decide +kernel⟩
theorem wc_X5_153 : wC RX5 m_X0_setRoads 153 1 := ⟨tb_2 (i := 128) rfl rfl, cd_X0_setRoads, tb_1 (i := 2) rfl rfl, ⟨by decide +kernel, by decide +kernel⟩, by decide +kernel, by decide, by decide +kernel⟩
theorem wc_X0_55 : wC RX0 m_X0_everyone 55 0 := ⟨tb_2 (i := 132) rfl rfl, cd_X0_everyone, tb_1 (i := 2) rfl rfl, ⟨by decide +kernel, by decide +kernel⟩, by decide +kernel, by decide, by decide +kernel⟩
theorem lk_X5_156 : Cond.constantLong RX5 156 (4096) ∈ tW := tb_2 (i := 140) rfl rfl
theorem wc_X5_170 : wC RX5 m_J7_fill_53178 170 2 := ⟨tb_2 (i := 145) rfl rfl, cd_J7_fill_53178, tb_1 (i := 6) rfl rfl, ⟨by decide +kernel, by decide +kernel⟩, by decide +kernel, by decide, by decide +kernel⟩
theorem wc_X5_175 : wC RX5 m_X0_tick 175 2 := ⟨tb_2 (i := 152) rfl rfl, cd_X0_tick, tb_1 (i := 2) rfl rfl, ⟨by decide +kernel, by decide +kernel⟩, by decide +kernel, by decide, by decide +kernel⟩
theorem wc_X0_79 : wC RX0 m_X0_pullOn 79 2 := ⟨tb_2 (i := 156) rfl rfl, cd_X0_pullOn, tb_1 (i := 2) rfl rfl, ⟨by decide +kernel, by decide +kernel⟩, by decide +kernel, by decide, by decide +kernel⟩
theorem wc_X0_83 : wC RX0 m_X0_wrap 83 1 := ⟨tb_2 (i := 160) rfl rfl, cd_X0_wrap, tb_1 (i := 2) rfl rfl, ⟨by decide +kernel, by decide +kernel⟩, by decide +kernel, by decide, by decide +kernel⟩
theorem wc_X0_86 : wC RX0 m_X0_fire 86 1 := ⟨tb_2 (i := 164) rfl rfl, cd_X0_fire, tb_1 (i := 2) rfl rfl, ⟨by decide +kernel, by decide +kernel⟩, by decide +kernel, by decide, by decide +kernel⟩
theorem wc_X0_75 : wC RX0 m_X0_holds 75 2 := ⟨tb_2 (i := 168) rfl rfl, cd_X0_holds, tb_1 (i := 2) rfl rfl, ⟨by decide +kernel, by decide +kernel⟩, by decide +kernel, by decide, by decide +kernel⟩
theorem wc_X0_96 : wC RX0 m_X0_pushAt 96 1 := ⟨tb_2 (i := 171) rfl rfl, cd_X0_pushAt, tb_1 (i := 2) rfl rfl, ⟨by decide +kernel, by decide +kernel⟩, by decide +kernel, by decide, by decide +kernel⟩
theorem wa_X0_90 : Cond.methodLink RX0 90 arraycopyName ∈ tW := tb_2 (i := 175) rfl rfl
theorem wc_X5_179 : wC RX5 m_X0_allRoads 179 0 := ⟨tb_2 (i := 180) rfl rfl, cd_X0_allRoads, tb_1 (i := 2) rfl rfl, ⟨by decide +kernel, by decide +kernel⟩, by decide +kernel, by decide, by decide +kernel⟩
theorem wc_X0_59 : wC RX0 m_J6_bitCount_0f7a4 59 1 := ⟨tb_2 (i := 184) rfl rfl, cd_J6_bitCount_0f7a4, tb_1 (i := 10) rfl rfl, ⟨by decide +kernel, by decide +kernel⟩, by decide +kernel, by decide, by decide +kernel⟩
theorem lk_J6_265 : Cond.constant RJ6 265 (1431655765) ∈ tW := tb_2 (i := 187) rfl rfl
theorem lk_J6_266 : Cond.constant RJ6 266 (858993459) ∈ tW := tb_2 (i := 188) rfl rfl
theorem lk_J6_267 : Cond.constant RJ6 267 (252645135) ∈ tW := tb_2 (i := 189) rfl rfl
theorem wc_X5_186 : wC RX5 m_J6_bitCount_0f7a4 186 1 := ⟨tb_2 (i := 194) rfl rfl, cd_J6_bitCount_0f7a4, tb_1 (i := 10) rfl rfl, ⟨by decide +kernel, by decide +kernel⟩, by decide +kernel, by decide, by decide +kernel⟩
theorem wc_X5_191 : wC RX5 m_X0_isSet 191 1 := ⟨tb_2 (i := 199) rfl rfl, cd_X0_isSet, tb_1 (i := 2) rfl rfl, ⟨by decide +kernel, by decide +kernel⟩, by decide +kernel, by decide, by decide +kernel⟩
theorem wc_X5_194 : wC RX5 m_X0_inStep 194 2 := ⟨tb_2 (i := 203) rfl rfl, cd_X0_inStep, tb_1 (i := 2) rfl rfl, ⟨by decide +kernel, by decide +kernel⟩, by decide +kernel, by decide, by decide +kernel⟩
theorem wc_X5_198 : wC RX5 m_X0_leastArc 198 1 := ⟨tb_2 (i := 211) rfl rfl, cd_X0_leastArc, tb_1 (i := 2) rfl rfl, ⟨by decide +kernel, by decide +kernel⟩, by decide +kernel, by decide, by decide +kernel⟩
theorem wc_X0_103 : wC RX0 m_X0_arcFrom 103 2 := ⟨tb_2 (i := 215) rfl rfl, cd_X0_arcFrom, tb_1 (i := 2) rfl rfl, ⟨by decide +kernel, by decide +kernel⟩, by decide +kernel, by decide, by decide +kernel⟩
theorem wm_X0_112 : Cond.methodLink RX0 112 Lib.Math.max.name ∈ tW := tb_2 (i := 219) rfl rfl
theorem wms_max : Cond.static Lib.Math.max.name ∈ tW := tb_2 (i := 220) rfl rfl
theorem wmc_max : Cond.code Lib.Math.max.name Lib.Math.max.code 2 (some .int) ∈ tW := tb_2 (i := 221) rfl rfl
theorem wm_X0_107 : Cond.methodLink RX0 107 Lib.Math.min.name ∈ tW := tb_2 (i := 222) rfl rfl
theorem wms_min : Cond.static Lib.Math.min.name ∈ tW := tb_2 (i := 223) rfl rfl
theorem wmc_min : Cond.code Lib.Math.min.name Lib.Math.min.code 2 (some .int) ∈ tW := tb_2 (i := 224) rfl rfl
theorem wc_X5_201 : wC RX5 m_X0_startWalk 201 0 := ⟨tb_2 (i := 229) rfl rfl, cd_X0_startWalk, tb_1 (i := 2) rfl rfl, ⟨by decide +kernel, by decide +kernel⟩, by decide +kernel, by decide, by decide +kernel⟩
theorem wc_X5_204 : wC RX5 m_X4_start 204 1 := ⟨tb_2 (i := 233) rfl rfl, cd_X4_start, tb_1 (i := 3) rfl rfl, ⟨by decide +kernel, by decide +kernel⟩, by decide +kernel, by decide, by decide +kernel⟩
theorem wc_X4_29 : wC RX4 m_J7_fill_53178 29 2 := ⟨tb_2 (i := 237) rfl rfl, cd_J7_fill_53178, tb_1 (i := 6) rfl rfl, ⟨by decide +kernel, by decide +kernel⟩, by decide +kernel, by decide, by decide +kernel⟩
theorem wc_X5_210 : wC RX5 m_X4_stepOf 210 2 := ⟨tb_2 (i := 238) rfl rfl, cd_X4_stepOf, tb_1 (i := 3) rfl rfl, ⟨by decide +kernel, by decide +kernel⟩, by decide +kernel, by decide, by decide +kernel⟩
theorem wc_X4_35 : wC RX4 m_X4_makeRoom 35 0 := ⟨tb_3 (i := 2) rfl rfl, cd_X4_makeRoom, tb_1 (i := 3) rfl rfl, ⟨by decide +kernel, by decide +kernel⟩, by decide +kernel, by decide, by decide +kernel⟩
theorem wm_X4_49 : Cond.methodLink RX4 49 Lib.Math.min.name ∈ tW := tb_3 (i := 6) rfl rfl
theorem wc_X4_55 : wC RX4 m_J7_copyOf_59c91 55 2 := ⟨tb_3 (i := 7) rfl rfl, cd_J7_copyOf_59c91, tb_1 (i := 6) rfl rfl, ⟨by decide +kernel, by decide +kernel⟩, by decide +kernel, by decide, by decide +kernel⟩
theorem wm_J7_304 : Cond.methodLink RJ7 304 Lib.Math.min.name ∈ tW := tb_3 (i := 17) rfl rfl
theorem wa_J7_150 : Cond.methodLink RJ7 150 arraycopyName ∈ tW := tb_3 (i := 18) rfl rfl
theorem wc_X4_59 : wC RX4 m_J7_copyOf_c38d5 59 2 := ⟨tb_3 (i := 19) rfl rfl, cd_J7_copyOf_c38d5, tb_1 (i := 6) rfl rfl, ⟨by decide +kernel, by decide +kernel⟩, by decide +kernel, by decide, by decide +kernel⟩
theorem wc_X4_38 : wC RX4 m_X4_pack 38 2 := ⟨tb_3 (i := 27) rfl rfl, cd_X4_pack, tb_1 (i := 3) rfl rfl, ⟨by decide +kernel, by decide +kernel⟩, by decide +kernel, by decide, by decide +kernel⟩
theorem wc_X4_41 : wC RX4 m_X4_headOfLast 41 0 := ⟨tb_3 (i := 31) rfl rfl, cd_X4_headOfLast, tb_1 (i := 3) rfl rfl, ⟨by decide +kernel, by decide +kernel⟩, by decide +kernel, by decide, by decide +kernel⟩
theorem lk_X4_62 : Cond.constantLong RX4 62 (-7046029254386353131) ∈ tW := tb_3 (i := 35) rfl rfl
theorem wc_X4_45 : wC RX4 m_X4_isLikeLast 45 1 := ⟨tb_3 (i := 36) rfl rfl, cd_X4_isLikeLast, tb_1 (i := 3) rfl rfl, ⟨by decide +kernel, by decide +kernel⟩, by decide +kernel, by decide, by decide +kernel⟩
theorem wc_X5_214 : wC RX5 m_X0_walk 214 0 := ⟨tb_3 (i := 40) rfl rfl, cd_X0_walk, tb_1 (i := 2) rfl rfl, ⟨by decide +kernel, by decide +kernel⟩, by decide +kernel, by decide, by decide +kernel⟩
theorem wc_X0_99 : wC RX0 m_X0_tick 99 2 := ⟨tb_3 (i := 44) rfl rfl, cd_X0_tick, tb_1 (i := 2) rfl rfl, ⟨by decide +kernel, by decide +kernel⟩, by decide +kernel, by decide, by decide +kernel⟩
theorem wc_X5_217 : wC RX5 m_X0_smallStates 217 0 := ⟨tb_3 (i := 53) rfl rfl, cd_X0_smallStates, tb_1 (i := 2) rfl rfl, ⟨by decide +kernel, by decide +kernel⟩, by decide +kernel, by decide, by decide +kernel⟩
theorem wc_X5_220 : wC RX5 m_X1_follow 220 2 := ⟨tb_3 (i := 57) rfl rfl, cd_X1_follow, tb_1 (i := 4) rfl rfl, ⟨by decide +kernel, by decide +kernel⟩, by decide +kernel, by decide, by decide +kernel⟩
theorem wc_X1_28 : wC RX1 m_X1_makeRoom 28 1 := ⟨tb_3 (i := 61) rfl rfl, cd_X1_makeRoom, tb_1 (i := 4) rfl rfl, ⟨by decide +kernel, by decide +kernel⟩, by decide +kernel, by decide, by decide +kernel⟩
theorem wm_X1_48 : Cond.methodLink RX1 48 Lib.Math.min.name ∈ tW := tb_3 (i := 65) rfl rfl
theorem wm_X1_54 : Cond.methodLink RX1 54 Lib.Math.max.name ∈ tW := tb_3 (i := 66) rfl rfl
theorem wc_X1_32 : wC RX1 m_X0_stateAfter 32 1 := ⟨tb_3 (i := 67) rfl rfl, cd_X0_stateAfter, tb_1 (i := 2) rfl rfl, ⟨by decide +kernel, by decide +kernel⟩, by decide +kernel, by decide, by decide +kernel⟩
theorem wc_X0_115 : wC RX0 m_X0_setWalker 115 1 := ⟨tb_3 (i := 71) rfl rfl, cd_X0_setWalker, tb_1 (i := 2) rfl rfl, ⟨by decide +kernel, by decide +kernel⟩, by decide +kernel, by decide, by decide +kernel⟩
theorem wc_X0_119 : wC RX0 m_X0_walk 119 0 := ⟨tb_3 (i := 75) rfl rfl, cd_X0_walk, tb_1 (i := 2) rfl rfl, ⟨by decide +kernel, by decide +kernel⟩, by decide +kernel, by decide, by decide +kernel⟩
theorem wc_X1_38 : wC RX1 m_J7_fill_53178 38 2 := ⟨tb_3 (i := 76) rfl rfl, cd_J7_fill_53178, tb_1 (i := 6) rfl rfl, ⟨by decide +kernel, by decide +kernel⟩, by decide +kernel, by decide, by decide +kernel⟩
theorem wc_X1_44 : wC RX1 m_X1_followFrom 44 2 := ⟨tb_3 (i := 77) rfl rfl, cd_X1_followFrom, tb_1 (i := 4) rfl rfl, ⟨by decide +kernel, by decide +kernel⟩, by decide +kernel, by decide, by decide +kernel⟩
theorem wc_X1_57 : wC RX1 m_X1_leastOfRound 57 2 := ⟨tb_3 (i := 81) rfl rfl, cd_X1_leastOfRound, tb_1 (i := 4) rfl rfl, ⟨by decide +kernel, by decide +kernel⟩, by decide +kernel, by decide, by decide +kernel⟩
theorem wc_X5_224 : wC RX5 m_X1_keep 224 1 := ⟨tb_3 (i := 85) rfl rfl, cd_X1_keep, tb_1 (i := 4) rfl rfl, ⟨by decide +kernel, by decide +kernel⟩, by decide +kernel, by decide, by decide +kernel⟩
theorem wc_X1_60 : wC RX1 m_X1_lengthOfRound 60 2 := ⟨tb_3 (i := 89) rfl rfl, cd_X1_lengthOfRound, tb_1 (i := 4) rfl rfl, ⟨by decide +kernel, by decide +kernel⟩, by decide +kernel, by decide, by decide +kernel⟩
theorem wc_X5_228 : wC RX5 m_X1_tell 228 2 := ⟨tb_3 (i := 97) rfl rfl, cd_X1_tell, tb_1 (i := 4) rfl rfl, ⟨by decide +kernel, by decide +kernel⟩, by decide +kernel, by decide, by decide +kernel⟩
theorem wc_X5_231 : wC RX5 m_X1_statesInStep 231 3 := ⟨tb_3 (i := 105) rfl rfl, cd_X1_statesInStep, tb_1 (i := 4) rfl rfl, ⟨by decide +kernel, by decide +kernel⟩, by decide +kernel, by decide, by decide +kernel⟩
theorem wc_X1_63 : wC RX1 m_X1_roundInStep 63 4 := ⟨tb_3 (i := 109) rfl rfl, cd_X1_roundInStep, tb_1 (i := 4) rfl rfl, ⟨by decide +kernel, by decide +kernel⟩, by decide +kernel, by decide, by decide +kernel⟩
theorem wc_X1_67 : wC RX1 m_X0_stateInStep 67 2 := ⟨tb_3 (i := 113) rfl rfl, cd_X0_stateInStep, tb_1 (i := 2) rfl rfl, ⟨by decide +kernel, by decide +kernel⟩, by decide +kernel, by decide, by decide +kernel⟩
theorem wc_X0_122 : wC RX0 m_X0_inStep 122 2 := ⟨tb_3 (i := 117) rfl rfl, cd_X0_inStep, tb_1 (i := 2) rfl rfl, ⟨by decide +kernel, by decide +kernel⟩, by decide +kernel, by decide, by decide +kernel⟩
theorem wc_X5_235 : wC RX5 m_X0_findLeaders 235 1 := ⟨tb_3 (i := 122) rfl rfl, cd_X0_findLeaders, tb_1 (i := 2) rfl rfl, ⟨by decide +kernel, by decide +kernel⟩, by decide +kernel, by decide, by decide +kernel⟩
theorem wc_X0_65 : wC RX0 m_X0_fillReach 65 0 := ⟨tb_3 (i := 126) rfl rfl, cd_X0_fillReach, tb_1 (i := 2) rfl rfl, ⟨by decide +kernel, by decide +kernel⟩, by decide +kernel, by decide, by decide +kernel⟩
theorem wc_X0_68 : wC RX0 m_J6_numberOfTrailingZeros_0f7a4 68 1 := ⟨tb_3 (i := 130) rfl rfl, cd_J6_numberOfTrailingZeros_0f7a4, tb_1 (i := 10) rfl rfl, ⟨by decide +kernel, by decide +kernel⟩, by decide +kernel, by decide, by decide +kernel⟩
theorem lk_J6_264 : Cond.constant RJ6 264 (65536) ∈ tW := tb_3 (i := 133) rfl rfl
theorem wc_X0_71 : wC RX0 m_X0_allLeadBack 71 1 := ⟨tb_3 (i := 134) rfl rfl, cd_X0_allLeadBack, tb_1 (i := 2) rfl rfl, ⟨by decide +kernel, by decide +kernel⟩, by decide +kernel, by decide, by decide +kernel⟩
theorem wc_X5_239 : wC RX5 m_X3_empty 239 1 := ⟨tb_3 (i := 146) rfl rfl, cd_X3_empty, tb_1 (i := 5) rfl rfl, ⟨by decide +kernel, by decide +kernel⟩, by decide +kernel, by decide, by decide +kernel⟩
theorem wc_X5_240 : wC RX5 m_X3_has 240 2 := ⟨tb_3 (i := 154) rfl rfl, cd_X3_has, tb_1 (i := 5) rfl rfl, ⟨by decide +kernel, by decide +kernel⟩, by decide +kernel, by decide, by decide +kernel⟩
theorem lk_X5_242 : Cond.constant RX5 242 (-1048576) ∈ tW := tb_3 (i := 158) rfl rfl
theorem lk_X5_243 : Cond.constant RX5 243 (1048576) ∈ tW := tb_3 (i := 159) rfl rfl
theorem wc_X5_244 : wC RX5 m_X3_put 244 3 := ⟨tb_3 (i := 160) rfl rfl, cd_X3_put, tb_1 (i := 5) rfl rfl, ⟨by decide +kernel, by decide +kernel⟩, by decide +kernel, by decide, by decide +kernel⟩
theorem wc_X3_66 : wC RX3 m_X3_place 66 2 := ⟨tb_3 (i := 164) rfl rfl, cd_X3_place, tb_1 (i := 5) rfl rfl, ⟨by decide +kernel, by decide +kernel⟩, by decide +kernel, by decide, by decide +kernel⟩
theorem wc_X5_247 : wC RX5 m_X3_remove 247 2 := ⟨tb_3 (i := 171) rfl rfl, cd_X3_remove, tb_1 (i := 5) rfl rfl, ⟨by decide +kernel, by decide +kernel⟩, by decide +kernel, by decide, by decide +kernel⟩
theorem wc_X5_250 : wC RX5 m_X3_findPace 250 0 := ⟨tb_3 (i := 179) rfl rfl, cd_X3_findPace, tb_1 (i := 5) rfl rfl, ⟨by decide +kernel, by decide +kernel⟩, by decide +kernel, by decide, by decide +kernel⟩
theorem wa_X3_87 : Cond.methodLink RX3 87 arraycopyName ∈ tW := tb_3 (i := 183) rfl rfl
theorem wc_X3_104 : wC RX3 m_X3_takeRounds 104 1 := ⟨tb_3 (i := 184) rfl rfl, cd_X3_takeRounds, tb_1 (i := 5) rfl rfl, ⟨by decide +kernel, by decide +kernel⟩, by decide +kernel, by decide, by decide +kernel⟩
theorem wc_X3_101 : wC RX3 m_X3_multiplyPower 101 1 := ⟨tb_3 (i := 188) rfl rfl, cd_X3_multiplyPower, tb_1 (i := 5) rfl rfl, ⟨by decide +kernel, by decide +kernel⟩, by decide +kernel, by decide, by decide +kernel⟩
theorem wc_X3_74 : wC RX3 m_X3_multiply 74 3 := ⟨tb_3 (i := 192) rfl rfl, cd_X3_multiply, tb_1 (i := 5) rfl rfl, ⟨by decide +kernel, by decide +kernel⟩, by decide +kernel, by decide, by decide +kernel⟩
theorem wc_X3_70 : wC RX3 m_X3_takeBetter 70 5 := ⟨tb_3 (i := 196) rfl rfl, cd_X3_takeBetter, tb_1 (i := 5) rfl rfl, ⟨by decide +kernel, by decide +kernel⟩, by decide +kernel, by decide, by decide +kernel⟩
theorem wc_X3_107 : wC RX3 m_X3_reducePace 107 0 := ⟨tb_3 (i := 200) rfl rfl, cd_X3_reducePace, tb_1 (i := 5) rfl rfl, ⟨by decide +kernel, by decide +kernel⟩, by decide +kernel, by decide, by decide +kernel⟩
theorem wc_X5_260 : wC RX5 m_X3_traceCritical 260 1 := ⟨tb_3 (i := 208) rfl rfl, cd_X3_traceCritical, tb_1 (i := 5) rfl rfl, ⟨by decide +kernel, by decide +kernel⟩, by decide +kernel, by decide, by decide +kernel⟩
theorem wc_X3_110 : wC RX3 m_X3_shiftByPace 110 0 := ⟨tb_3 (i := 212) rfl rfl, cd_X3_shiftByPace, tb_1 (i := 5) rfl rfl, ⟨by decide +kernel, by decide +kernel⟩, by decide +kernel, by decide, by decide +kernel⟩
theorem wc_X3_113 : wC RX3 m_X3_fillBack 113 1 := ⟨tb_3 (i := 216) rfl rfl, cd_X3_fillBack, tb_1 (i := 5) rfl rfl, ⟨by decide +kernel, by decide +kernel⟩, by decide +kernel, by decide, by decide +kernel⟩
theorem wc_X3_78 : wC RX3 m_X3_join 78 2 := ⟨tb_3 (i := 220) rfl rfl, cd_X3_join, tb_1 (i := 5) rfl rfl, ⟨by decide +kernel, by decide +kernel⟩, by decide +kernel, by decide, by decide +kernel⟩
theorem wm_X3_82 : Cond.methodLink RX3 82 Lib.MathLoose.max_long.x ∈ tW := tb_3 (i := 223) rfl rfl
theorem wms_lmax : Cond.static Lib.MathLoose.max_long.x ∈ tW := tb_3 (i := 224) rfl rfl
theorem wmc_lmax : Cond.code Lib.MathLoose.max_long.x Lib.MathLoose.max_long.code 4 (some .long) ∈ tW := tb_3 (i := 225) rfl rfl
theorem wc_X3_116 : wC RX3 m_X3_writeRound 116 2 := ⟨tb_3 (i := 226) rfl rfl, cd_X3_writeRound, tb_1 (i := 5) rfl rfl, ⟨by decide +kernel, by decide +kernel⟩, by decide +kernel, by decide, by decide +kernel⟩
theorem wc_X3_120 : wC RX3 m_X3_leastNext 120 2 := ⟨tb_3 (i := 230) rfl rfl, cd_X3_leastNext, tb_1 (i := 5) rfl rfl, ⟨by decide +kernel, by decide +kernel⟩, by decide +kernel, by decide, by decide +kernel⟩
theorem lk_X5_263 : Cond.constantLong RX5 263 (1000000000000) ∈ tW := tb_3 (i := 238) rfl rfl
theorem wc_X5_265 : wC RX5 m_X3_sumOf 265 3 := ⟨tb_3 (i := 239) rfl rfl, cd_X3_sumOf, tb_1 (i := 5) rfl rfl, ⟨by decide +kernel, by decide +kernel⟩, by decide +kernel, by decide, by decide +kernel⟩
theorem wc_X3_93 : wC RX3 m_X3_startRow 93 1 := ⟨tb_4 (i := 3) rfl rfl, cd_X3_startRow, tb_1 (i := 5) rfl rfl, ⟨by decide +kernel, by decide +kernel⟩, by decide +kernel, by decide, by decide +kernel⟩
theorem wc_X3_97 : wC RX3 m_X3_multiplyRow 97 1 := ⟨tb_4 (i := 7) rfl rfl, cd_X3_multiplyRow, tb_1 (i := 5) rfl rfl, ⟨by decide +kernel, by decide +kernel⟩, by decide +kernel, by decide, by decide +kernel⟩
theorem wc_X5_269 : wC RX5 m_X5_sumOrNone 269 1 := ⟨tb_4 (i := 11) rfl rfl, cd_X5_sumOrNone, tb_1 (i := 1) rfl rfl, ⟨by decide +kernel, by decide +kernel⟩, by decide +kernel, by decide, by decide +kernel⟩
theorem lk_X5_277 : Cond.constantLong RX5 277 (-9223372036854775808) ∈ tW := tb_4 (i := 15) rfl rfl
theorem lk_X5_295 : Cond.constantLong RX5 295 (-1) ∈ tW := tb_4 (i := 16) rfl rfl
theorem wc_X5_273 : wC RX5 m_X3_longestSum 273 2 := ⟨tb_4 (i := 21) rfl rfl, cd_X3_longestSum, tb_1 (i := 5) rfl rfl, ⟨by decide +kernel, by decide +kernel⟩, by decide +kernel, by decide, by decide +kernel⟩
theorem wc_X5_279 : wC RX5 m_X3_findAgain 279 0 := ⟨tb_4 (i := 29) rfl rfl, cd_X3_findAgain, tb_1 (i := 5) rfl rfl, ⟨by decide +kernel, by decide +kernel⟩, by decide +kernel, by decide, by decide +kernel⟩
theorem wc_X3_123 : wC RX3 m_X3_areAlike 123 2 := ⟨tb_4 (i := 33) rfl rfl, cd_X3_areAlike, tb_1 (i := 5) rfl rfl, ⟨by decide +kernel, by decide +kernel⟩, by decide +kernel, by decide, by decide +kernel⟩
theorem wo_X6_3 : Cond.methodLink RX6 3 Lib.objectInit ∈ tW := tb_4 (i := 116) rfl rfl
theorem lk_X6_115 : Cond.constantLong RX6 115 (-9223372036854775808) ∈ tW := tb_4 (i := 117) rfl rfl
theorem lf_X6_120 : Cond.fieldLink RX6 120 RX6 (TX6 0).2.1 (TX6 0).2.2.1 ∈ tW := tb_4 (i := 118) rfl rfl
theorem lf_X6_117 : Cond.fieldLink RX6 117 RX6 (TX6 1).2.1 (TX6 1).2.2.1 ∈ tW := tb_4 (i := 119) rfl rfl
theorem lf_X6_9 : Cond.fieldLink RX6 9 RX6 (TX6 2).2.1 (TX6 2).2.2.1 ∈ tW := tb_4 (i := 120) rfl rfl
theorem lf_X6_15 : Cond.fieldLink RX6 15 RX6 (TX6 3).2.1 (TX6 3).2.2.1 ∈ tW := tb_4 (i := 121) rfl rfl
theorem lf_X6_18 : Cond.fieldLink RX6 18 RX6 (TX6 4).2.1 (TX6 4).2.2.1 ∈ tW := tb_4 (i := 122) rfl rfl
theorem lf_X6_22 : Cond.fieldLink RX6 22 RX6 (TX6 5).2.1 (TX6 5).2.2.1 ∈ tW := tb_4 (i := 123) rfl rfl
theorem lf_X6_141 : Cond.fieldLink RX6 141 RX6 (TX6 6).2.1 (TX6 6).2.2.1 ∈ tW := tb_4 (i := 124) rfl rfl
theorem lf_X6_144 : Cond.fieldLink RX6 144 RX6 (TX6 7).2.1 (TX6 7).2.2.1 ∈ tW := tb_4 (i := 125) rfl rfl
theorem lf_X6_26 : Cond.fieldLink RX6 26 RX6 (TX6 8).2.1 (TX6 8).2.2.1 ∈ tW := tb_4 (i := 126) rfl rfl
theorem lf_X6_29 : Cond.fieldLink RX6 29 RX6 (TX6 9).2.1 (TX6 9).2.2.1 ∈ tW := tb_4 (i := 127) rfl rfl
theorem lf_X6_32 : Cond.fieldLink RX6 32 RX6 (TX6 10).2.1 (TX6 10).2.2.1 ∈ tW := tb_4 (i := 128) rfl rfl
theorem lf_X6_35 : Cond.fieldLink RX6 35 RX6 (TX6 11).2.1 (TX6 11).2.2.1 ∈ tW := tb_4 (i := 129) rfl rfl
theorem lf_X6_38 : Cond.fieldLink RX6 38 RX6 (TX6 12).2.1 (TX6 12).2.2.1 ∈ tW := tb_4 (i := 130) rfl rfl
theorem lf_X6_41 : Cond.fieldLink RX6 41 RX6 (TX6 13).2.1 (TX6 13).2.2.1 ∈ tW := tb_4 (i := 131) rfl rfl
theorem lf_X6_45 : Cond.fieldLink RX6 45 RX6 (TX6 14).2.1 (TX6 14).2.2.1 ∈ tW := tb_4 (i := 132) rfl rfl
theorem lf_X6_48 : Cond.fieldLink RX6 48 RX6 (TX6 15).2.1 (TX6 15).2.2.1 ∈ tW := tb_4 (i := 133) rfl rfl
theorem lf_X6_51 : Cond.fieldLink RX6 51 RX6 (TX6 16).2.1 (TX6 16).2.2.1 ∈ tW := tb_4 (i := 134) rfl rfl
theorem lf_X6_54 : Cond.fieldLink RX6 54 RX6 (TX6 17).2.1 (TX6 17).2.2.1 ∈ tW := tb_4 (i := 135) rfl rfl
theorem lf_X6_57 : Cond.fieldLink RX6 57 RX6 (TX6 18).2.1 (TX6 18).2.2.1 ∈ tW := tb_4 (i := 136) rfl rfl
theorem lf_X6_60 : Cond.fieldLink RX6 60 RX6 (TX6 19).2.1 (TX6 19).2.2.1 ∈ tW := tb_4 (i := 137) rfl rfl
theorem lf_X6_63 : Cond.fieldLink RX6 63 RX6 (TX6 20).2.1 (TX6 20).2.2.1 ∈ tW := tb_4 (i := 138) rfl rfl
theorem lf_X6_66 : Cond.fieldLink RX6 66 RX6 (TX6 21).2.1 (TX6 21).2.2.1 ∈ tW := tb_4 (i := 139) rfl rfl
theorem lf_X6_69 : Cond.fieldLink RX6 69 RX6 (TX6 22).2.1 (TX6 22).2.2.1 ∈ tW := tb_4 (i := 140) rfl rfl
theorem lf_X6_72 : Cond.fieldLink RX6 72 RX6 (TX6 23).2.1 (TX6 23).2.2.1 ∈ tW := tb_4 (i := 141) rfl rfl
theorem lf_X6_75 : Cond.fieldLink RX6 75 RX6 (TX6 24).2.1 (TX6 24).2.2.1 ∈ tW := tb_4 (i := 142) rfl rfl
theorem lf_X6_78 : Cond.fieldLink RX6 78 RX6 (TX6 25).2.1 (TX6 25).2.2.1 ∈ tW := tb_4 (i := 143) rfl rfl
theorem lf_X6_81 : Cond.fieldLink RX6 81 RX6 (TX6 26).2.1 (TX6 26).2.2.1 ∈ tW := tb_4 (i := 144) rfl rfl
theorem lf_X6_224 : Cond.fieldLink RX6 224 RX6 (TX6 27).2.1 (TX6 27).2.2.1 ∈ tW := tb_4 (i := 145) rfl rfl
theorem lf_X6_227 : Cond.fieldLink RX6 227 RX6 (TX6 28).2.1 (TX6 28).2.2.1 ∈ tW := tb_4 (i := 146) rfl rfl
theorem lf_X6_84 : Cond.fieldLink RX6 84 RX6 (TX6 29).2.1 (TX6 29).2.2.1 ∈ tW := tb_4 (i := 147) rfl rfl
theorem lf_X6_230 : Cond.fieldLink RX6 230 RX6 (TX6 30).2.1 (TX6 30).2.2.1 ∈ tW := tb_4 (i := 148) rfl rfl
theorem lf_X6_87 : Cond.fieldLink RX6 87 RX6 (TX6 31).2.1 (TX6 31).2.2.1 ∈ tW := tb_4 (i := 149) rfl rfl
theorem lf_X6_90 : Cond.fieldLink RX6 90 RX6 (TX6 32).2.1 (TX6 32).2.2.1 ∈ tW := tb_4 (i := 150) rfl rfl
theorem lf_X6_93 : Cond.fieldLink RX6 93 RX6 (TX6 33).2.1 (TX6 33).2.2.1 ∈ tW := tb_4 (i := 151) rfl rfl
theorem lf_X6_96 : Cond.fieldLink RX6 96 RX6 (TX6 34).2.1 (TX6 34).2.2.1 ∈ tW := tb_4 (i := 152) rfl rfl
theorem lf_X6_99 : Cond.fieldLink RX6 99 RX6 (TX6 35).2.1 (TX6 35).2.2.1 ∈ tW := tb_4 (i := 153) rfl rfl
theorem lf_X6_262 : Cond.fieldLink RX6 262 RX6 (TX6 36).2.1 (TX6 36).2.2.1 ∈ tW := tb_4 (i := 154) rfl rfl
theorem lf_X6_258 : Cond.fieldLink RX6 258 RX6 (TX6 37).2.1 (TX6 37).2.2.1 ∈ tW := tb_4 (i := 155) rfl rfl
theorem lf_X6_102 : Cond.fieldLink RX6 102 RX6 (TX6 38).2.1 (TX6 38).2.2.1 ∈ tW := tb_4 (i := 156) rfl rfl
theorem lf_X6_275 : Cond.fieldLink RX6 275 RX6 (TX6 39).2.1 (TX6 39).2.2.1 ∈ tW := tb_4 (i := 157) rfl rfl
theorem lf_X6_199 : Cond.fieldLink RX6 199 RX6 (TX6 40).2.1 (TX6 40).2.2.1 ∈ tW := tb_4 (i := 158) rfl rfl
theorem lf_X6_191 : Cond.fieldLink RX6 191 RX6 (TX6 41).2.1 (TX6 41).2.2.1 ∈ tW := tb_4 (i := 159) rfl rfl
theorem lf_X6_106 : Cond.fieldLink RX6 106 RX6 (TX6 42).2.1 (TX6 42).2.2.1 ∈ tW := tb_4 (i := 160) rfl rfl
theorem lf_X6_109 : Cond.fieldLink RX6 109 RX6 (TX6 43).2.1 (TX6 43).2.2.1 ∈ tW := tb_4 (i := 161) rfl rfl
theorem lf_X6_112 : Cond.fieldLink RX6 112 RX6 (TX6 44).2.1 (TX6 44).2.2.1 ∈ tW := tb_4 (i := 162) rfl rfl
theorem wc_X6_123 : wC RX6 m_X6_no 123 1 := ⟨tb_5 (i := 23) rfl rfl, cd_X6_no, tb_1 (i := 8) rfl rfl, ⟨by decide +kernel, by decide +kernel⟩, by decide +kernel, by decide, by decide +kernel⟩
theorem wc_X6_131 : wC RX6 m_X6_placed 131 2 := ⟨tb_5 (i := 31) rfl rfl, cd_X6_placed, tb_1 (i := 8) rfl rfl, ⟨by decide +kernel, by decide +kernel⟩, by decide +kernel, by decide, by decide +kernel⟩
theorem wc_X6_127 : wC RX6 m_X6_sheeted 127 1 := ⟨tb_5 (i := 35) rfl rfl, cd_X6_sheeted, tb_1 (i := 8) rfl rfl, ⟨by decide +kernel, by decide +kernel⟩, by decide +kernel, by decide, by decide +kernel⟩
theorem wc_X6_135 : wC RX6 m_X6_cut 135 2 := ⟨tb_5 (i := 39) rfl rfl, cd_X6_cut, tb_1 (i := 8) rfl rfl, ⟨by decide +kernel, by decide +kernel⟩, by decide +kernel, by decide, by decide +kernel⟩
theorem lk_X6_139 : Cond.constantLong RX6 139 (-1) ∈ tW := tb_5 (i := 46) rfl rfl
theorem wc_X6_147 : wC RX6 m_X6_isPhase 147 1 := ⟨tb_5 (i := 59) rfl rfl, cd_X6_isPhase, tb_1 (i := 8) rfl rfl, ⟨by decide +kernel, by decide +kernel⟩, by decide +kernel, by decide, by decide +kernel⟩
theorem wc_X6_151 : wC RX6 m_X6_refuse 151 1 := ⟨tb_5 (i := 63) rfl rfl, cd_X6_refuse, tb_1 (i := 8) rfl rfl, ⟨by decide +kernel, by decide +kernel⟩, by decide +kernel, by decide, by decide +kernel⟩
theorem wc_X6_154 : wC RX6 m_X6_isBeater 154 1 := ⟨tb_5 (i := 71) rfl rfl, cd_X6_isBeater, tb_1 (i := 8) rfl rfl, ⟨by decide +kernel, by decide +kernel⟩, by decide +kernel, by decide, by decide +kernel⟩
theorem lk_X6_157 : Cond.constantLong RX6 157 (4096) ∈ tW := tb_5 (i := 95) rfl rfl
theorem wc_X6_159 : wC RX6 m_X6_clears 159 0 := ⟨tb_5 (i := 100) rfl rfl, cd_X6_clears, tb_1 (i := 8) rfl rfl, ⟨by decide +kernel, by decide +kernel⟩, by decide +kernel, by decide, by decide +kernel⟩
theorem wc_X6_166 : wC RX6 m_X6_tick 166 1 := ⟨tb_5 (i := 108) rfl rfl, cd_X6_tick, tb_1 (i := 8) rfl rfl, ⟨by decide +kernel, by decide +kernel⟩, by decide +kernel, by decide, by decide +kernel⟩
theorem wc_X6_162 : wC RX6 m_X6_pulled 162 2 := ⟨tb_5 (i := 112) rfl rfl, cd_X6_pulled, tb_1 (i := 8) rfl rfl, ⟨by decide +kernel, by decide +kernel⟩, by decide +kernel, by decide, by decide +kernel⟩
theorem wc_X6_170 : wC RX6 m_X6_seenBy 170 1 := ⟨tb_5 (i := 120) rfl rfl, cd_X6_seenBy, tb_1 (i := 8) rfl rfl, ⟨by decide +kernel, by decide +kernel⟩, by decide +kernel, by decide, by decide +kernel⟩
theorem wc_X6_173 : wC RX6 m_X6_isSet 173 1 := ⟨tb_5 (i := 132) rfl rfl, cd_X6_isSet, tb_1 (i := 8) rfl rfl, ⟨by decide +kernel, by decide +kernel⟩, by decide +kernel, by decide, by decide +kernel⟩
theorem wc_X6_176 : wC RX6 m_X6_isInStep 176 2 := ⟨tb_5 (i := 136) rfl rfl, cd_X6_isInStep, tb_1 (i := 8) rfl rfl, ⟨by decide +kernel, by decide +kernel⟩, by decide +kernel, by decide, by decide +kernel⟩
theorem wm_X6_180 : Cond.methodLink RX6 180 Lib.Math.max.name ∈ tW := tb_5 (i := 144) rfl rfl
theorem wm_X6_185 : Cond.methodLink RX6 185 Lib.Math.min.name ∈ tW := tb_5 (i := 145) rfl rfl
theorem wc_X6_202 : wC RX6 m_X6_rounds 202 0 := ⟨tb_5 (i := 150) rfl rfl, cd_X6_rounds, tb_1 (i := 8) rfl rfl, ⟨by decide +kernel, by decide +kernel⟩, by decide +kernel, by decide, by decide +kernel⟩
theorem wc_X6_188 : wC RX6 m_X6_begin 188 1 := ⟨tb_5 (i := 154) rfl rfl, cd_X6_begin, tb_1 (i := 8) rfl rfl, ⟨by decide +kernel, by decide +kernel⟩, by decide +kernel, by decide, by decide +kernel⟩
theorem wc_X6_194 : wC RX6 m_X6_isLike 194 2 := ⟨tb_5 (i := 158) rfl rfl, cd_X6_isLike, tb_1 (i := 8) rfl rfl, ⟨by decide +kernel, by decide +kernel⟩, by decide +kernel, by decide, by decide +kernel⟩
theorem lk_X6_198 : Cond.constant RX6 198 (100000) ∈ tW := tb_5 (i := 162) rfl rfl
theorem wc_X6_216 : wC RX6 m_X6_states 216 0 := ⟨tb_5 (i := 171) rfl rfl, cd_X6_states, tb_1 (i := 8) rfl rfl, ⟨by decide +kernel, by decide +kernel⟩, by decide +kernel, by decide, by decide +kernel⟩
theorem lk_X6_206 : Cond.constantLong RX6 206 (20736) ∈ tW := tb_5 (i := 175) rfl rfl
theorem wc_X6_220 : wC RX6 m_X6_fillEnds 220 1 := ⟨tb_5 (i := 176) rfl rfl, cd_X6_fillEnds, tb_1 (i := 8) rfl rfl, ⟨by decide +kernel, by decide +kernel⟩, by decide +kernel, by decide, by decide +kernel⟩
theorem wc_X6_208 : wC RX6 m_X6_stateTo 208 2 := ⟨tb_5 (i := 180) rfl rfl, cd_X6_stateTo, tb_1 (i := 8) rfl rfl, ⟨by decide +kernel, by decide +kernel⟩, by decide +kernel, by decide, by decide +kernel⟩
theorem wc_X6_212 : wC RX6 m_X6_numberOf 212 1 := ⟨tb_5 (i := 184) rfl rfl, cd_X6_numberOf, tb_1 (i := 8) rfl rfl, ⟨by decide +kernel, by decide +kernel⟩, by decide +kernel, by decide, by decide +kernel⟩
theorem wc_X6_233 : wC RX6 m_X6_isIn 233 2 := ⟨tb_5 (i := 212) rfl rfl, cd_X6_isIn, tb_1 (i := 8) rfl rfl, ⟨by decide +kernel, by decide +kernel⟩, by decide +kernel, by decide, by decide +kernel⟩
theorem lk_X6_237 : Cond.constant RX6 237 (-1048576) ∈ tW := tb_5 (i := 216) rfl rfl
theorem lk_X6_238 : Cond.constant RX6 238 (1048576) ∈ tW := tb_5 (i := 217) rfl rfl
theorem wc_X6_268 : wC RX6 m_X6_paces 268 0 := ⟨tb_5 (i := 226) rfl rfl, cd_X6_paces, tb_1 (i := 8) rfl rfl, ⟨by decide +kernel, by decide +kernel⟩, by decide +kernel, by decide, by decide +kernel⟩
theorem wc_X6_254 : wC RX6 m_X6_fillPowers 254 2 := ⟨tb_5 (i := 230) rfl rfl, cd_X6_fillPowers, tb_1 (i := 8) rfl rfl, ⟨by decide +kernel, by decide +kernel⟩, by decide +kernel, by decide, by decide +kernel⟩
theorem wc_X6_242 : wC RX6 m_X6_unit 242 2 := ⟨tb_5 (i := 234) rfl rfl, cd_X6_unit, tb_1 (i := 8) rfl rfl, ⟨by decide +kernel, by decide +kernel⟩, by decide +kernel, by decide, by decide +kernel⟩
theorem wc_X6_246 : wC RX6 m_X6_multiply 246 7 := ⟨tb_5 (i := 238) rfl rfl, cd_X6_multiply, tb_1 (i := 8) rfl rfl, ⟨by decide +kernel, by decide +kernel⟩, by decide +kernel, by decide, by decide +kernel⟩
theorem wm_X6_239 : Cond.methodLink RX6 239 Lib.MathLoose.max_long.x ∈ tW := tb_6 (i := 2) rfl rfl
theorem wc_X6_265 : wC RX6 m_X6_common 265 2 := ⟨tb_6 (i := 3) rfl rfl, cd_X6_common, tb_1 (i := 8) rfl rfl, ⟨by decide +kernel, by decide +kernel⟩, by decide +kernel, by decide, by decide +kernel⟩
theorem wm_X6_250 : Cond.methodLink RX6 250 Lib.MathLoose.abs_long.x ∈ tW := tb_6 (i := 6) rfl rfl
theorem wms_labs : Cond.static Lib.MathLoose.abs_long.x ∈ tW := tb_6 (i := 7) rfl rfl
theorem wmc_labs : Cond.code Lib.MathLoose.abs_long.x Lib.MathLoose.abs_long.code 2 (some .long) ∈ tW := tb_6 (i := 8) rfl rfl
theorem wc_X6_271 : wC RX6 m_X6_isPace 271 2 := ⟨tb_6 (i := 13) rfl rfl, cd_X6_isPace, tb_1 (i := 8) rfl rfl, ⟨by decide +kernel, by decide +kernel⟩, by decide +kernel, by decide, by decide +kernel⟩
theorem wc_X6_278 : wC RX6 m_X6_goes 278 5 := ⟨tb_6 (i := 17) rfl rfl, cd_X6_goes, tb_1 (i := 8) rfl rfl, ⟨by decide +kernel, by decide +kernel⟩, by decide +kernel, by decide, by decide +kernel⟩
theorem lk_X6_282 : Cond.constantLong RX6 282 (1000000000000) ∈ tW := tb_6 (i := 25) rfl rfl
theorem wc_X6_284 : wC RX6 m_X6_isAgain 284 2 := ⟨tb_6 (i := 34) rfl rfl, cd_X6_isAgain, tb_1 (i := 8) rfl rfl, ⟨by decide +kernel, by decide +kernel⟩, by decide +kernel, by decide, by decide +kernel⟩
theorem lk_L_29 : Cond.constantLong RL 29 (4294967295) ∈ tW := tb_6 (i := 42) rfl rfl
theorem wO2 : Cond.instanceMethod Lib.objectInit ∈ tW := tb_1 (i := 22) rfl rfl
theorem wO3 : Cond.code Lib.objectInit ⟨#[0xb1]⟩ 1 none ∈ tW := tb_1 (i := 23) rfl rfl
theorem wA2 : Cond.native arraycopyName ∈ tW := tb_2 (i := 63) rfl rfl
theorem wA3 : Cond.static arraycopyName ∈ tW := tb_2 (i := 62) rfl rfl
theorem wA4 : Cond.initialized "java/lang/System" ∈ tW := tb_1 (i := 9) rfl rfl
theorem wm4 : Cond.initialized "java/lang/Math" ∈ tW := tb_1 (i := 11) rfl rfl
theorem wT_int : Cond.arrayClass .int ∈ tW := tW_d (by decide +kernel)
theorem wT_long : Cond.arrayClass .long ∈ tW := tW_d (by decide +kernel)
theorem wT_boolean : Cond.arrayClass .boolean ∈ tW := tW_d (by decide +kernel)
theorem wT_byte : Cond.arrayClass .byte ∈ tW := tW_d (by decide +kernel)
