/-! THE METHODS: their records, and the links of their pools (by program) -/
abbrev YX0_init : YY := (yX0_init, cX0_init, 1, none, { frames := 1, cells := 1, slots := 60, locals := 20 }, [])
abbrev YX0_isFull : YY := (yX0_isFull, cX0_isFull, 1, (some .boolean), { frames := 0, cells := 0, slots := 0, locals := 0 }, [])
abbrev YX0_add : YY := (yX0_add, cX0_add, 2, (some .int), { frames := 1, cells := 0, slots := 0, locals := 20 }, [])
abbrev YX0_empty : YY := (yX0_empty, cX0_empty, 2, (some .int), { frames := 0, cells := 0, slots := 0, locals := 0 }, [])
abbrev YX0_firstWrong : YY := (yX0_firstWrong, cX0_firstWrong, 4, (some .int), { frames := 1, cells := 0, slots := 0, locals := 20 }, [])
abbrev YX0_isComplete : YY := (yX0_isComplete, cX0_isComplete, 1, (some .boolean), { frames := 2, cells := 0, slots := 0, locals := 43 }, [])
abbrev YX0_readInto : YY := (yX0_readInto, cX0_readInto, 4, (some .int), { frames := 1, cells := 0, slots := 0, locals := 23 }, [])
abbrev YX0_isDigit : YY := (yX0_isDigit, cX0_isDigit, 1, (some .boolean), { frames := 0, cells := 0, slots := 0, locals := 0 }, [])
abbrev YX1_init : YY := (yX1_init, cX1_init, 2, none, { frames := 2, cells := 16, slots := 230, locals := 40 }, [])
abbrev YX1_copyFrom : YY := (yX1_copyFrom, cX1_copyFrom, 3, none, { frames := 2, cells := 0, slots := 0, locals := 47 }, [])
abbrev YX1_isFull : YY := (yX1_isFull, cX1_isFull, 1, (some .boolean), { frames := 0, cells := 0, slots := 0, locals := 0 }, [])
abbrev YX1_blocks : YY := (yX1_blocks, cX1_blocks, 2, (some .boolean), { frames := 2, cells := 0, slots := 0, locals := 44 }, [])
abbrev YX1_answerFor : YY := (yX1_answerFor, cX1_answerFor, 3, (some .int), { frames := 1, cells := 0, slots := 0, locals := 22 }, [])
abbrev YX1_trialOf : YY := (yX1_trialOf, cX1_trialOf, 3, (some .int), { frames := 0, cells := 0, slots := 0, locals := 0 }, [])
abbrev YX1_ring : YY := (yX1_ring, cX1_ring, 6, (some .int), { frames := 4, cells := 0, slots := 0, locals := 90 }, [])
abbrev YX1_sendOff : YY := (yX1_sendOff, cX1_sendOff, 4, none, { frames := 1, cells := 0, slots := 0, locals := 20 }, [])
abbrev YX1_ringOften : YY := (yX1_ringOften, cX1_ringOften, 7, (some .int), { frames := 5, cells := 0, slots := 0, locals := 115 }, [])
abbrev YX1_letPass : YY := (yX1_letPass, cX1_letPass, 4, (some .int), { frames := 5, cells := 0, slots := 0, locals := 114 }, [])
abbrev YX1_tick : YY := (yX1_tick, cX1_tick, 5, (some .int), { frames := 4, cells := 0, slots := 0, locals := 90 }, [])
abbrev YX1_moveCall : YY := (yX1_moveCall, cX1_moveCall, 4, none, { frames := 0, cells := 0, slots := 0, locals := 0 }, [])
abbrev YX1_settle : YY := (yX1_settle, cX1_settle, 6, none, { frames := 3, cells := 0, slots := 0, locals := 65 }, [])
abbrev YX1_isBad : YY := (yX1_isBad, cX1_isBad, 2, (some .boolean), { frames := 0, cells := 0, slots := 0, locals := 0 }, [])
abbrev YX1_settleTrial : YY := (yX1_settleTrial, cX1_settleTrial, 3, none, { frames := 2, cells := 0, slots := 0, locals := 42 }, [])
abbrev YX1_nextCut : YY := (yX1_nextCut, cX1_nextCut, 2, (some .int), { frames := 1, cells := 0, slots := 0, locals := 21 }, [])
abbrev YX1_settleInWindow : YY := (yX1_settleInWindow, cX1_settleInWindow, 4, none, { frames := 2, cells := 0, slots := 0, locals := 42 }, [])
abbrev YX1_closeByHand : YY := (yX1_closeByHand, cX1_closeByHand, 4, (some .int), { frames := 1, cells := 0, slots := 0, locals := 22 }, [])
abbrev YX1_ticksTillFree : YY := (yX1_ticksTillFree, cX1_ticksTillFree, 5, (some .int), { frames := 2, cells := 0, slots := 0, locals := 42 }, [])
abbrev YX1_healthiestStore : YY := (yX1_healthiestStore, cX1_healthiestStore, 3, (some .int), { frames := 3, cells := 0, slots := 0, locals := 65 }, [])
abbrev YX1_isHealthier : YY := (yX1_isHealthier, cX1_isHealthier, 5, (some .boolean), { frames := 2, cells := 0, slots := 0, locals := 41 }, [])
abbrev YX1_closedBreakers : YY := (yX1_closedBreakers, cX1_closedBreakers, 3, (some .int), { frames := 0, cells := 0, slots := 0, locals := 0 }, [])
abbrev YX1_numberOf : YY := (yX1_numberOf, cX1_numberOf, 4, (some .int), { frames := 2, cells := 0, slots := 0, locals := 42 }, [])
abbrev YX1_sumOf : YY := (yX1_sumOf, cX1_sumOf, 4, (some .int), { frames := 3, cells := 0, slots := 0, locals := 65 }, [])
abbrev YX1_goodShare : YY := (yX1_goodShare, cX1_goodShare, 2, (some .double), { frames := 4, cells := 0, slots := 0, locals := 88 }, [])
abbrev YX2_init : YY := (yX2_init, cX2_init, 1, none, { frames := 1, cells := 1, slots := 20, locals := 20 }, [])
abbrev YX2_copyFrom : YY := (yX2_copyFrom, cX2_copyFrom, 2, none, { frames := 1, cells := 0, slots := 0, locals := 26 }, [])
abbrev YX2_takeRow : YY := (yX2_takeRow, cX2_takeRow, 3, (some .int), { frames := 2, cells := 0, slots := 0, locals := 46 }, [])
abbrev YX2_takeDelay : YY := (yX2_takeDelay, cX2_takeDelay, 2, (some .int), { frames := 1, cells := 0, slots := 0, locals := 20 }, [])
abbrev YX2_nextPlace : YY := (yX2_nextPlace, cX2_nextPlace, 1, (some .int), { frames := 0, cells := 0, slots := 0, locals := 0 }, [])
abbrev YX2_windowSize : YY := (yX2_windowSize, cX2_windowSize, 2, (some .int), { frames := 1, cells := 0, slots := 0, locals := 21 }, [])
abbrev YX2_badInWindow : YY := (yX2_badInWindow, cX2_badInWindow, 2, (some .int), { frames := 1, cells := 0, slots := 0, locals := 20 }, [])
abbrev YX2_noteOutcome : YY := (yX2_noteOutcome, cX2_noteOutcome, 2, none, { frames := 1, cells := 0, slots := 0, locals := 21 }, [])
abbrev YX2_shut : YY := (yX2_shut, cX2_shut, 1, none, { frames := 0, cells := 0, slots := 0, locals := 0 }, [])
abbrev YX2_cutOff : YY := (yX2_cutOff, cX2_cutOff, 2, none, { frames := 0, cells := 0, slots := 0, locals := 0 }, [])
abbrev YX2_waitATick : YY := (yX2_waitATick, cX2_waitATick, 1, none, { frames := 0, cells := 0, slots := 0, locals := 0 }, [])
abbrev YX3_init : YY := (yX3_init, cX3_init, 2, none, { frames := 3, cells := 139, slots := 1964, locals := 61 }, [])
abbrev YX3_call : YY := (yX3_call, cX3_call, 2, (some .int), { frames := 7, cells := 2, slots := 12, locals := 115 }, [])
abbrev YX3_callOften : YY := (yX3_callOften, cX3_callOften, 4, (some .int), { frames := 7, cells := 3, slots := 18, locals := 141 }, [])
abbrev YX3_callHealthiest : YY := (yX3_callHealthiest, cX3_callHealthiest, 2, (some .int), { frames := 6, cells := 1, slots := 6, locals := 115 }, [])
abbrev YX3_close : YY := (yX3_close, cX3_close, 2, (some .int), { frames := 7, cells := 1, slots := 6, locals := 110 }, [])
abbrev YX3_set : YY := (yX3_set, cX3_set, 4, (some .int), { frames := 7, cells := 2, slots := 12, locals := 112 }, [])
abbrev YX3_pass : YY := (yX3_pass, cX3_pass, 2, (some .int), { frames := 7, cells := 1, slots := 6, locals := 137 }, [])
abbrev YX3_append : YY := (yX3_append, cX3_append, 2, (some .int), { frames := 7, cells := 2, slots := 12, locals := 112 }, [])
abbrev YX3_clearBuffer : YY := (yX3_clearBuffer, cX3_clearBuffer, 1, (some .int), { frames := 1, cells := 0, slots := 0, locals := 21 }, [])
abbrev YX3_delays : YY := (yX3_delays, cX3_delays, 3, (some .int), { frames := 7, cells := 2, slots := 12, locals := 110 }, [])
abbrev YX3_undo : YY := (yX3_undo, cX3_undo, 1, (some .int), { frames := 6, cells := 1, slots := 6, locals := 90 }, [])
abbrev YX3_store : YY := (yX3_store, cX3_store, 3, (some .int), { frames := 7, cells := 2, slots := 12, locals := 112 }, [])
abbrev YX3_delay : YY := (yX3_delay, cX3_delay, 4, (some .int), { frames := 7, cells := 2, slots := 12, locals := 110 }, [])
abbrev YX3_onWay : YY := (yX3_onWay, cX3_onWay, 3, (some .int), { frames := 7, cells := 2, slots := 12, locals := 112 }, [])
abbrev YX3_count : YY := (yX3_count, cX3_count, 2, (some .int), { frames := 7, cells := 1, slots := 6, locals := 112 }, [])
abbrev YX3_setting : YY := (yX3_setting, cX3_setting, 2, (some .int), { frames := 7, cells := 1, slots := 6, locals := 110 }, [])
abbrev YX3_freeIn : YY := (yX3_freeIn, cX3_freeIn, 2, (some .int), { frames := 7, cells := 1, slots := 6, locals := 110 }, [])
abbrev YX3_healthiest : YY := (yX3_healthiest, cX3_healthiest, 1, (some .int), { frames := 4, cells := 0, slots := 0, locals := 87 }, [])
abbrev YX3_health : YY := (yX3_health, cX3_health, 1, (some .double), { frames := 5, cells := 0, slots := 0, locals := 109 }, [])
abbrev YX3_counted : YY := (yX3_counted, cX3_counted, 2, (some .int), { frames := 4, cells := 0, slots := 0, locals := 88 }, [])
abbrev YX3_save : YY := (yX3_save, cX3_save, 1, none, { frames := 3, cells := 0, slots := 0, locals := 69 }, [])
abbrev YX3_requireStore : YY := (yX3_requireStore, cX3_requireStore, 1, none, { frames := 6, cells := 1, slots := 6, locals := 90 }, [])
abbrev YX3_requireSetting : YY := (yX3_requireSetting, cX3_requireSetting, 1, none, { frames := 6, cells := 1, slots := 6, locals := 90 }, [])
abbrev YX3_requireRange : YY := (yX3_requireRange, cX3_requireRange, 3, none, { frames := 6, cells := 1, slots := 6, locals := 90 }, [])
abbrev YX3_requireNotNegative : YY := (yX3_requireNotNegative, cX3_requireNotNegative, 1, none, { frames := 6, cells := 1, slots := 6, locals := 90 }, [])
abbrev YJ6_bitCount_0f7a4 : YY := (yJ6_bitCount_0f7a4, cJ6_bitCount_0f7a4, 1, (some .int), { frames := 0, cells := 0, slots := 0, locals := 0 }, [])
abbrev YJ9_min_7cf53 : YY := (yJ9_min_7cf53, cJ9_min_7cf53, 2, (some .int), { frames := 0, cells := 0, slots := 0, locals := 0 }, [])
abbrev YJ7_fill_53178 : YY := (yJ7_fill_53178, cJ7_fill_53178, 4, none, { frames := 0, cells := 0, slots := 0, locals := 0 }, [])
abbrev YL_cell : YY := (yL_cell, cL_cell, 2, (some .int), { frames := 0, cells := 0, slots := 0, locals := 0 }, [])
abbrev YL_low : YY := (yL_low, cL_low, 2, (some .int), { frames := 0, cells := 0, slots := 0, locals := 0 }, [])
abbrev YL_told : YY := (yL_told, cL_told, 5, (some .long), { frames := 8, cells := 262, slots := 1572, locals := 134 }, [])
abbrev YL_act : YY := (yL_act, cL_act, 7, (some .int), { frames := 8, cells := 30, slots := 180, locals := 164 }, [])
abbrev YL_holds : YY := (yL_holds, cL_holds, 13, (some .boolean), { frames := 8, cells := 300, slots := 1810, locals := 134 }, [])
theorem flX3_10 : FL RX3 10 3 0 := ⟨_, rfl, by decide, gT_ix 146 (by decide +kernel) rfl⟩
theorem flX3_16 : FL RX3 16 3 1 := ⟨_, rfl, by decide, gT_ix 147 (by decide +kernel) rfl⟩
theorem flX3_19 : FL RX3 19 3 2 := ⟨_, rfl, by decide, gT_ix 148 (by decide +kernel) rfl⟩
theorem flX3_26 : FL RX3 26 3 5 := ⟨_, rfl, by decide, gT_ix 151 (by decide +kernel) rfl⟩
theorem flX3_81 : FL RX3 81 1 1 := ⟨_, rfl, by decide, gT_ix 106 (by decide +kernel) rfl⟩
theorem flX3_107 : FL RX3 107 1 0 := ⟨_, rfl, by decide, gT_ix 104 (by decide +kernel) rfl⟩
theorem flX3_117 : FL RX3 117 3 4 := ⟨_, rfl, by decide, gT_ix 150 (by decide +kernel) rfl⟩
theorem flX3_123 : FL RX3 123 3 3 := ⟨_, rfl, by decide, gT_ix 149 (by decide +kernel) rfl⟩
theorem flX3_137 : FL RX3 137 2 1 := ⟨_, rfl, by decide, gT_ix 45 (by decide +kernel) rfl⟩
theorem flX3_140 : FL RX3 140 2 0 := ⟨_, rfl, by decide, gT_ix 42 (by decide +kernel) rfl⟩
theorem flX3_143 : FL RX3 143 1 3 := ⟨_, rfl, by decide, gT_ix 110 (by decide +kernel) rfl⟩
theorem flX3_146 : FL RX3 146 1 2 := ⟨_, rfl, by decide, gT_ix 108 (by decide +kernel) rfl⟩
theorem flX3_194 : FL RX3 194 1 4 := ⟨_, rfl, by decide, gT_ix 112 (by decide +kernel) rfl⟩
theorem flX3_200 : FL RX3 200 1 5 := ⟨_, rfl, by decide, gT_ix 114 (by decide +kernel) rfl⟩
theorem flX3_206 : FL RX3 206 1 6 := ⟨_, rfl, by decide, gT_ix 116 (by decide +kernel) rfl⟩
theorem flX0_11 : FL RX0 11 0 0 := ⟨_, rfl, by decide, gT_ix 139 (by decide +kernel) rfl⟩
theorem flX0_15 : FL RX0 15 0 1 := ⟨_, rfl, by decide, gT_ix 140 (by decide +kernel) rfl⟩
theorem flX1_11 : FL RX1 11 1 0 := ⟨_, rfl, by decide, gT_ix 103 (by decide +kernel) rfl⟩
theorem flX1_17 : FL RX1 17 1 1 := ⟨_, rfl, by decide, gT_ix 105 (by decide +kernel) rfl⟩
theorem flX1_23 : FL RX1 23 1 2 := ⟨_, rfl, by decide, gT_ix 107 (by decide +kernel) rfl⟩
theorem flX1_40 : FL RX1 40 1 3 := ⟨_, rfl, by decide, gT_ix 109 (by decide +kernel) rfl⟩
theorem flX1_44 : FL RX1 44 1 4 := ⟨_, rfl, by decide, gT_ix 111 (by decide +kernel) rfl⟩
theorem flX1_47 : FL RX1 47 1 5 := ⟨_, rfl, by decide, gT_ix 113 (by decide +kernel) rfl⟩
theorem flX1_50 : FL RX1 50 1 6 := ⟨_, rfl, by decide, gT_ix 115 (by decide +kernel) rfl⟩
theorem flX1_61 : FL RX1 61 2 3 := ⟨_, rfl, by decide, gT_ix 48 (by decide +kernel) rfl⟩
theorem flX1_67 : FL RX1 67 2 10 := ⟨_, rfl, by decide, gT_ix 61 (by decide +kernel) rfl⟩
theorem flX1_70 : FL RX1 70 2 9 := ⟨_, rfl, by decide, gT_ix 59 (by decide +kernel) rfl⟩
theorem flX1_77 : FL RX1 77 2 6 := ⟨_, rfl, by decide, gT_ix 54 (by decide +kernel) rfl⟩
theorem flX1_88 : FL RX1 88 2 12 := ⟨_, rfl, by decide, gT_ix 65 (by decide +kernel) rfl⟩
theorem flX1_111 : FL RX1 111 2 11 := ⟨_, rfl, by decide, gT_ix 63 (by decide +kernel) rfl⟩
theorem flX1_132 : FL RX1 132 2 5 := ⟨_, rfl, by decide, gT_ix 52 (by decide +kernel) rfl⟩
theorem flX1_145 : FL RX1 145 2 8 := ⟨_, rfl, by decide, gT_ix 57 (by decide +kernel) rfl⟩
theorem flX1_151 : FL RX1 151 2 4 := ⟨_, rfl, by decide, gT_ix 50 (by decide +kernel) rfl⟩
theorem flX1_161 : FL RX1 161 2 13 := ⟨_, rfl, by decide, gT_ix 67 (by decide +kernel) rfl⟩
theorem flX1_164 : FL RX1 164 2 0 := ⟨_, rfl, by decide, gT_ix 43 (by decide +kernel) rfl⟩
theorem flX2_9 : FL RX2 9 2 0 := ⟨_, rfl, by decide, gT_ix 41 (by decide +kernel) rfl⟩
theorem flX2_15 : FL RX2 15 2 1 := ⟨_, rfl, by decide, gT_ix 44 (by decide +kernel) rfl⟩
theorem flX2_19 : FL RX2 19 2 3 := ⟨_, rfl, by decide, gT_ix 47 (by decide +kernel) rfl⟩
theorem flX2_28 : FL RX2 28 2 2 := ⟨_, rfl, by decide, gT_ix 46 (by decide +kernel) rfl⟩
theorem flX2_31 : FL RX2 31 2 4 := ⟨_, rfl, by decide, gT_ix 49 (by decide +kernel) rfl⟩
theorem flX2_34 : FL RX2 34 2 5 := ⟨_, rfl, by decide, gT_ix 51 (by decide +kernel) rfl⟩
theorem flX2_37 : FL RX2 37 2 6 := ⟨_, rfl, by decide, gT_ix 53 (by decide +kernel) rfl⟩
theorem flX2_40 : FL RX2 40 2 7 := ⟨_, rfl, by decide, gT_ix 55 (by decide +kernel) rfl⟩
theorem flX2_43 : FL RX2 43 2 8 := ⟨_, rfl, by decide, gT_ix 56 (by decide +kernel) rfl⟩
theorem flX2_46 : FL RX2 46 2 9 := ⟨_, rfl, by decide, gT_ix 58 (by decide +kernel) rfl⟩
theorem flX2_49 : FL RX2 49 2 10 := ⟨_, rfl, by decide, gT_ix 60 (by decide +kernel) rfl⟩
theorem flX2_52 : FL RX2 52 2 11 := ⟨_, rfl, by decide, gT_ix 62 (by decide +kernel) rfl⟩
theorem flX2_55 : FL RX2 55 2 12 := ⟨_, rfl, by decide, gT_ix 64 (by decide +kernel) rfl⟩
theorem flX2_58 : FL RX2 58 2 13 := ⟨_, rfl, by decide, gT_ix 66 (by decide +kernel) rfl⟩
theorem cvX0_19 : CV RX0 19 YX0_isFull 0 := ⟨gT_ix 386 (by decide +kernel) rfl, gT_ix 378 (by decide +kernel) rfl, gT_ix 379 (by decide +kernel) rfl, gT_ix 8 (by decide +kernel) rfl, gT_ix 380 (by decide +kernel) rfl, by decide +kernel, by decide +kernel, by decide +kernel⟩
theorem cvX0_23 : CS RX0 23 YX0_isDigit 1 := ⟨gT_ix 399 (by decide +kernel) rfl, gT_ix 400 (by decide +kernel) rfl, gT_ix 8 (by decide +kernel) rfl, gT_ix 401 (by decide +kernel) rfl, by decide +kernel, by decide +kernel, by decide +kernel⟩
theorem cvX0_27 : CV RX0 27 YX0_firstWrong 0 := ⟨gT_ix 395 (by decide +kernel) rfl, gT_ix 396 (by decide +kernel) rfl, gT_ix 397 (by decide +kernel) rfl, gT_ix 8 (by decide +kernel) rfl, gT_ix 398 (by decide +kernel) rfl, by decide +kernel, by decide +kernel, by decide +kernel⟩
theorem cvX0_31 : CS RX0 31 YJ7_fill_53178 2 := ⟨gT_ix 415 (by decide +kernel) rfl, gT_ix 416 (by decide +kernel) rfl, gT_ix 17 (by decide +kernel) rfl, gT_ix 417 (by decide +kernel) rfl, by decide +kernel, by decide +kernel, by decide +kernel⟩
theorem cvX0_37 : CS RX0 37 YJ9_min_7cf53 2 := ⟨gT_ix 418 (by decide +kernel) rfl, gT_ix 286 (by decide +kernel) rfl, gT_ix 13 (by decide +kernel) rfl, gT_ix 287 (by decide +kernel) rfl, by decide +kernel, by decide +kernel, by decide +kernel⟩
theorem cvX1_26 : CI RX1 26 YX2_init 0 := ⟨gT_ix 37 (by decide +kernel) rfl, gT_ix 38 (by decide +kernel) rfl, gT_ix 6 (by decide +kernel) rfl, gT_ix 39 (by decide +kernel) rfl, ⟨by decide +kernel, by decide +kernel, by decide +kernel⟩, rfl, rfl⟩
theorem cvX1_36 : CV RX1 36 YX2_copyFrom 1 := ⟨gT_ix 241 (by decide +kernel) rfl, gT_ix 242 (by decide +kernel) rfl, gT_ix 243 (by decide +kernel) rfl, gT_ix 6 (by decide +kernel) rfl, gT_ix 244 (by decide +kernel) rfl, by decide +kernel, by decide +kernel, by decide +kernel⟩
theorem cvX1_53 : CV RX1 53 YX1_isFull 0 := ⟨gT_ix 527 (by decide +kernel) rfl, gT_ix 498 (by decide +kernel) rfl, gT_ix 499 (by decide +kernel) rfl, gT_ix 5 (by decide +kernel) rfl, gT_ix 500 (by decide +kernel) rfl, by decide +kernel, by decide +kernel, by decide +kernel⟩
theorem cvX1_57 : CV RX1 57 YX1_answerFor 1 := ⟨gT_ix 514 (by decide +kernel) rfl, gT_ix 515 (by decide +kernel) rfl, gT_ix 516 (by decide +kernel) rfl, gT_ix 5 (by decide +kernel) rfl, gT_ix 517 (by decide +kernel) rfl, by decide +kernel, by decide +kernel, by decide +kernel⟩
theorem cvX1_64 : CV RX1 64 YX1_trialOf 1 := ⟨gT_ix 435 (by decide +kernel) rfl, gT_ix 436 (by decide +kernel) rfl, gT_ix 437 (by decide +kernel) rfl, gT_ix 5 (by decide +kernel) rfl, gT_ix 438 (by decide +kernel) rfl, by decide +kernel, by decide +kernel, by decide +kernel⟩
theorem cvX1_73 : CV RX1 73 YX2_takeDelay 0 := ⟨gT_ix 518 (by decide +kernel) rfl, gT_ix 519 (by decide +kernel) rfl, gT_ix 520 (by decide +kernel) rfl, gT_ix 6 (by decide +kernel) rfl, gT_ix 521 (by decide +kernel) rfl, by decide +kernel, by decide +kernel, by decide +kernel⟩
theorem cvX1_80 : CV RX1 80 YX1_settle 4 := ⟨gT_ix 459 (by decide +kernel) rfl, gT_ix 460 (by decide +kernel) rfl, gT_ix 461 (by decide +kernel) rfl, gT_ix 5 (by decide +kernel) rfl, gT_ix 462 (by decide +kernel) rfl, by decide +kernel, by decide +kernel, by decide +kernel⟩
theorem cvX1_84 : CV RX1 84 YX1_sendOff 3 := ⟨gT_ix 523 (by decide +kernel) rfl, gT_ix 524 (by decide +kernel) rfl, gT_ix 525 (by decide +kernel) rfl, gT_ix 5 (by decide +kernel) rfl, gT_ix 526 (by decide +kernel) rfl, by decide +kernel, by decide +kernel, by decide +kernel⟩
theorem cvX1_91 : CV RX1 91 YX1_blocks 1 := ⟨gT_ix 536 (by decide +kernel) rfl, gT_ix 537 (by decide +kernel) rfl, gT_ix 538 (by decide +kernel) rfl, gT_ix 5 (by decide +kernel) rfl, gT_ix 539 (by decide +kernel) rfl, by decide +kernel, by decide +kernel, by decide +kernel⟩
theorem cvX1_95 : CV RX1 95 YX1_ring 1 := ⟨gT_ix 540 (by decide +kernel) rfl, gT_ix 511 (by decide +kernel) rfl, gT_ix 512 (by decide +kernel) rfl, gT_ix 5 (by decide +kernel) rfl, gT_ix 513 (by decide +kernel) rfl, by decide +kernel, by decide +kernel, by decide +kernel⟩
theorem cvX1_98 : CV RX1 98 YX1_tick 0 := ⟨gT_ix 451 (by decide +kernel) rfl, gT_ix 452 (by decide +kernel) rfl, gT_ix 453 (by decide +kernel) rfl, gT_ix 5 (by decide +kernel) rfl, gT_ix 454 (by decide +kernel) rfl, by decide +kernel, by decide +kernel, by decide +kernel⟩
theorem cvX1_101 : CV RX1 101 YX1_moveCall 2 := ⟨gT_ix 455 (by decide +kernel) rfl, gT_ix 456 (by decide +kernel) rfl, gT_ix 457 (by decide +kernel) rfl, gT_ix 5 (by decide +kernel) rfl, gT_ix 458 (by decide +kernel) rfl, by decide +kernel, by decide +kernel, by decide +kernel⟩
theorem cvX1_105 : CV RX1 105 YX2_waitATick 0 := ⟨gT_ix 489 (by decide +kernel) rfl, gT_ix 490 (by decide +kernel) rfl, gT_ix 491 (by decide +kernel) rfl, gT_ix 6 (by decide +kernel) rfl, gT_ix 492 (by decide +kernel) rfl, by decide +kernel, by decide +kernel, by decide +kernel⟩
theorem cvX1_108 : CV RX1 108 YX1_isBad 1 := ⟨gT_ix 463 (by decide +kernel) rfl, gT_ix 464 (by decide +kernel) rfl, gT_ix 465 (by decide +kernel) rfl, gT_ix 5 (by decide +kernel) rfl, gT_ix 466 (by decide +kernel) rfl, by decide +kernel, by decide +kernel, by decide +kernel⟩
theorem cvX1_114 : CV RX1 114 YX1_settleTrial 2 := ⟨gT_ix 467 (by decide +kernel) rfl, gT_ix 468 (by decide +kernel) rfl, gT_ix 469 (by decide +kernel) rfl, gT_ix 5 (by decide +kernel) rfl, gT_ix 470 (by decide +kernel) rfl, by decide +kernel, by decide +kernel, by decide +kernel⟩
theorem cvX1_118 : CV RX1 118 YX1_settleInWindow 2 := ⟨gT_ix 480 (by decide +kernel) rfl, gT_ix 481 (by decide +kernel) rfl, gT_ix 482 (by decide +kernel) rfl, gT_ix 5 (by decide +kernel) rfl, gT_ix 483 (by decide +kernel) rfl, by decide +kernel, by decide +kernel, by decide +kernel⟩
theorem cvX1_121 : CV RX1 121 YX1_nextCut 1 := ⟨gT_ix 471 (by decide +kernel) rfl, gT_ix 472 (by decide +kernel) rfl, gT_ix 473 (by decide +kernel) rfl, gT_ix 5 (by decide +kernel) rfl, gT_ix 474 (by decide +kernel) rfl, by decide +kernel, by decide +kernel, by decide +kernel⟩
theorem cvX1_125 : CV RX1 125 YX2_cutOff 1 := ⟨gT_ix 476 (by decide +kernel) rfl, gT_ix 477 (by decide +kernel) rfl, gT_ix 478 (by decide +kernel) rfl, gT_ix 6 (by decide +kernel) rfl, gT_ix 479 (by decide +kernel) rfl, by decide +kernel, by decide +kernel, by decide +kernel⟩
theorem cvX1_129 : CV RX1 129 YX2_shut 0 := ⟨gT_ix 439 (by decide +kernel) rfl, gT_ix 440 (by decide +kernel) rfl, gT_ix 441 (by decide +kernel) rfl, gT_ix 6 (by decide +kernel) rfl, gT_ix 442 (by decide +kernel) rfl, by decide +kernel, by decide +kernel, by decide +kernel⟩
theorem cvX1_135 : CS RX1 135 YJ9_min_7cf53 2 := ⟨gT_ix 475 (by decide +kernel) rfl, gT_ix 286 (by decide +kernel) rfl, gT_ix 13 (by decide +kernel) rfl, gT_ix 287 (by decide +kernel) rfl, by decide +kernel, by decide +kernel, by decide +kernel⟩
theorem cvX1_141 : CV RX1 141 YX2_noteOutcome 1 := ⟨gT_ix 484 (by decide +kernel) rfl, gT_ix 485 (by decide +kernel) rfl, gT_ix 486 (by decide +kernel) rfl, gT_ix 6 (by decide +kernel) rfl, gT_ix 487 (by decide +kernel) rfl, by decide +kernel, by decide +kernel, by decide +kernel⟩
theorem cvX1_148 : CV RX1 148 YX2_badInWindow 1 := ⟨gT_ix 288 (by decide +kernel) rfl, gT_ix 289 (by decide +kernel) rfl, gT_ix 290 (by decide +kernel) rfl, gT_ix 6 (by decide +kernel) rfl, gT_ix 291 (by decide +kernel) rfl, by decide +kernel, by decide +kernel, by decide +kernel⟩
theorem cvX1_154 : CV RX1 154 YX1_isHealthier 2 := ⟨gT_ix 506 (by decide +kernel) rfl, gT_ix 507 (by decide +kernel) rfl, gT_ix 508 (by decide +kernel) rfl, gT_ix 5 (by decide +kernel) rfl, gT_ix 509 (by decide +kernel) rfl, by decide +kernel, by decide +kernel, by decide +kernel⟩
theorem cvX1_158 : CV RX1 158 YX2_windowSize 1 := ⟨gT_ix 281 (by decide +kernel) rfl, gT_ix 282 (by decide +kernel) rfl, gT_ix 283 (by decide +kernel) rfl, gT_ix 6 (by decide +kernel) rfl, gT_ix 284 (by decide +kernel) rfl, by decide +kernel, by decide +kernel, by decide +kernel⟩
theorem cvX1_167 : CV RX1 167 YX2_nextPlace 0 := ⟨gT_ix 298 (by decide +kernel) rfl, gT_ix 299 (by decide +kernel) rfl, gT_ix 300 (by decide +kernel) rfl, gT_ix 6 (by decide +kernel) rfl, gT_ix 301 (by decide +kernel) rfl, by decide +kernel, by decide +kernel, by decide +kernel⟩
theorem cvX1_170 : CV RX1 170 YX1_numberOf 2 := ⟨gT_ix 277 (by decide +kernel) rfl, gT_ix 278 (by decide +kernel) rfl, gT_ix 279 (by decide +kernel) rfl, gT_ix 5 (by decide +kernel) rfl, gT_ix 280 (by decide +kernel) rfl, by decide +kernel, by decide +kernel, by decide +kernel⟩
theorem cvX1_173 : CV RX1 173 YX1_sumOf 1 := ⟨gT_ix 569 (by decide +kernel) rfl, gT_ix 274 (by decide +kernel) rfl, gT_ix 275 (by decide +kernel) rfl, gT_ix 5 (by decide +kernel) rfl, gT_ix 276 (by decide +kernel) rfl, by decide +kernel, by decide +kernel, by decide +kernel⟩
theorem cvX2_61 : CV RX2 61 YX0_readInto 1 := ⟨gT_ix 411 (by decide +kernel) rfl, gT_ix 412 (by decide +kernel) rfl, gT_ix 413 (by decide +kernel) rfl, gT_ix 8 (by decide +kernel) rfl, gT_ix 414 (by decide +kernel) rfl, by decide +kernel, by decide +kernel, by decide +kernel⟩
theorem cvX2_67 : CV RX2 67 YX2_nextPlace 0 := ⟨gT_ix 522 (by decide +kernel) rfl, gT_ix 299 (by decide +kernel) rfl, gT_ix 300 (by decide +kernel) rfl, gT_ix 6 (by decide +kernel) rfl, gT_ix 301 (by decide +kernel) rfl, by decide +kernel, by decide +kernel, by decide +kernel⟩
theorem cvX2_71 : CS RX2 71 YJ9_min_7cf53 2 := ⟨gT_ix 285 (by decide +kernel) rfl, gT_ix 286 (by decide +kernel) rfl, gT_ix 13 (by decide +kernel) rfl, gT_ix 287 (by decide +kernel) rfl, by decide +kernel, by decide +kernel, by decide +kernel⟩
theorem cvX2_77 : CS RX2 77 YJ6_bitCount_0f7a4 1 := ⟨gT_ix 292 (by decide +kernel) rfl, gT_ix 293 (by decide +kernel) rfl, gT_ix 14 (by decide +kernel) rfl, gT_ix 294 (by decide +kernel) rfl, by decide +kernel, by decide +kernel, by decide +kernel⟩
theorem cvX3_9 : CI RX3 9 YX1_init 0 := ⟨gT_ix 28 (by decide +kernel) rfl, gT_ix 29 (by decide +kernel) rfl, gT_ix 5 (by decide +kernel) rfl, gT_ix 30 (by decide +kernel) rfl, ⟨by decide +kernel, by decide +kernel, by decide +kernel⟩, rfl, rfl⟩
theorem cvX3_30 : CS RX3 30 YX3_requireStore 1 := ⟨gT_ix 341 (by decide +kernel) rfl, gT_ix 342 (by decide +kernel) rfl, gT_ix 4 (by decide +kernel) rfl, gT_ix 343 (by decide +kernel) rfl, by decide +kernel, by decide +kernel, by decide +kernel⟩
theorem cvX3_34 : CV RX3 34 YX1_blocks 1 := ⟨gT_ix 553 (by decide +kernel) rfl, gT_ix 537 (by decide +kernel) rfl, gT_ix 538 (by decide +kernel) rfl, gT_ix 5 (by decide +kernel) rfl, gT_ix 539 (by decide +kernel) rfl, by decide +kernel, by decide +kernel, by decide +kernel⟩
theorem cvX3_45 : CV RX3 45 YX3_save 0 := ⟨gT_ix 403 (by decide +kernel) rfl, gT_ix 405 (by decide +kernel) rfl, gT_ix 2 (by decide +kernel) rfl, gT_ix 4 (by decide +kernel) rfl, gT_ix 406 (by decide +kernel) rfl, by decide +kernel, by decide +kernel, by decide +kernel⟩
theorem cvX3_48 : CV RX3 48 YX1_ring 1 := ⟨gT_ix 510 (by decide +kernel) rfl, gT_ix 511 (by decide +kernel) rfl, gT_ix 512 (by decide +kernel) rfl, gT_ix 5 (by decide +kernel) rfl, gT_ix 513 (by decide +kernel) rfl, by decide +kernel, by decide +kernel, by decide +kernel⟩
theorem cvX3_52 : CS RX3 52 YX3_requireRange 3 := ⟨gT_ix 250 (by decide +kernel) rfl, gT_ix 251 (by decide +kernel) rfl, gT_ix 4 (by decide +kernel) rfl, gT_ix 252 (by decide +kernel) rfl, by decide +kernel, by decide +kernel, by decide +kernel⟩
theorem cvX3_56 : CV RX3 56 YX1_ringOften 3 := ⟨gT_ix 532 (by decide +kernel) rfl, gT_ix 533 (by decide +kernel) rfl, gT_ix 534 (by decide +kernel) rfl, gT_ix 5 (by decide +kernel) rfl, gT_ix 535 (by decide +kernel) rfl, by decide +kernel, by decide +kernel, by decide +kernel⟩
theorem cvX3_60 : CV RX3 60 YX1_isFull 0 := ⟨gT_ix 497 (by decide +kernel) rfl, gT_ix 498 (by decide +kernel) rfl, gT_ix 499 (by decide +kernel) rfl, gT_ix 5 (by decide +kernel) rfl, gT_ix 500 (by decide +kernel) rfl, by decide +kernel, by decide +kernel, by decide +kernel⟩
theorem cvX3_64 : CV RX3 64 YX1_healthiestStore 0 := ⟨gT_ix 502 (by decide +kernel) rfl, gT_ix 503 (by decide +kernel) rfl, gT_ix 504 (by decide +kernel) rfl, gT_ix 5 (by decide +kernel) rfl, gT_ix 505 (by decide +kernel) rfl, by decide +kernel, by decide +kernel, by decide +kernel⟩
theorem cvX3_68 : CV RX3 68 YX1_closeByHand 1 := ⟨gT_ix 431 (by decide +kernel) rfl, gT_ix 432 (by decide +kernel) rfl, gT_ix 433 (by decide +kernel) rfl, gT_ix 5 (by decide +kernel) rfl, gT_ix 434 (by decide +kernel) rfl, by decide +kernel, by decide +kernel, by decide +kernel⟩
theorem cvX3_71 : CS RX3 71 YX3_requireSetting 1 := ⟨gT_ix 318 (by decide +kernel) rfl, gT_ix 319 (by decide +kernel) rfl, gT_ix 4 (by decide +kernel) rfl, gT_ix 320 (by decide +kernel) rfl, by decide +kernel, by decide +kernel, by decide +kernel⟩
theorem cvX3_84 : CV RX3 84 YX1_letPass 1 := ⟨gT_ix 447 (by decide +kernel) rfl, gT_ix 448 (by decide +kernel) rfl, gT_ix 449 (by decide +kernel) rfl, gT_ix 5 (by decide +kernel) rfl, gT_ix 450 (by decide +kernel) rfl, by decide +kernel, by decide +kernel, by decide +kernel⟩
theorem cvX3_87 : CV RX3 87 YX0_isFull 0 := ⟨gT_ix 377 (by decide +kernel) rfl, gT_ix 378 (by decide +kernel) rfl, gT_ix 379 (by decide +kernel) rfl, gT_ix 8 (by decide +kernel) rfl, gT_ix 380 (by decide +kernel) rfl, by decide +kernel, by decide +kernel, by decide +kernel⟩
theorem cvX3_90 : CV RX3 90 YX0_add 1 := ⟨gT_ix 382 (by decide +kernel) rfl, gT_ix 383 (by decide +kernel) rfl, gT_ix 384 (by decide +kernel) rfl, gT_ix 8 (by decide +kernel) rfl, gT_ix 385 (by decide +kernel) rfl, by decide +kernel, by decide +kernel, by decide +kernel⟩
theorem cvX3_93 : CV RX3 93 YX0_empty 0 := ⟨gT_ix 365 (by decide +kernel) rfl, gT_ix 366 (by decide +kernel) rfl, gT_ix 367 (by decide +kernel) rfl, gT_ix 8 (by decide +kernel) rfl, gT_ix 368 (by decide +kernel) rfl, by decide +kernel, by decide +kernel, by decide +kernel⟩
theorem cvX3_99 : CV RX3 99 YX0_isComplete 0 := ⟨gT_ix 391 (by decide +kernel) rfl, gT_ix 392 (by decide +kernel) rfl, gT_ix 393 (by decide +kernel) rfl, gT_ix 8 (by decide +kernel) rfl, gT_ix 394 (by decide +kernel) rfl, by decide +kernel, by decide +kernel, by decide +kernel⟩
theorem cvX3_111 : CV RX3 111 YX2_takeRow 1 := ⟨gT_ix 407 (by decide +kernel) rfl, gT_ix 408 (by decide +kernel) rfl, gT_ix 409 (by decide +kernel) rfl, gT_ix 6 (by decide +kernel) rfl, gT_ix 410 (by decide +kernel) rfl, by decide +kernel, by decide +kernel, by decide +kernel⟩
theorem cvX3_126 : CV RX3 126 YX1_copyFrom 1 := ⟨gT_ix 237 (by decide +kernel) rfl, gT_ix 238 (by decide +kernel) rfl, gT_ix 239 (by decide +kernel) rfl, gT_ix 5 (by decide +kernel) rfl, gT_ix 240 (by decide +kernel) rfl, by decide +kernel, by decide +kernel, by decide +kernel⟩
theorem cvX3_130 : CV RX3 130 YX1_numberOf 2 := ⟨gT_ix 345 (by decide +kernel) rfl, gT_ix 278 (by decide +kernel) rfl, gT_ix 279 (by decide +kernel) rfl, gT_ix 5 (by decide +kernel) rfl, gT_ix 280 (by decide +kernel) rfl, by decide +kernel, by decide +kernel, by decide +kernel⟩
theorem cvX3_134 : CS RX3 134 YX3_requireNotNegative 1 := ⟨gT_ix 350 (by decide +kernel) rfl, gT_ix 351 (by decide +kernel) rfl, gT_ix 4 (by decide +kernel) rfl, gT_ix 352 (by decide +kernel) rfl, by decide +kernel, by decide +kernel, by decide +kernel⟩
theorem cvX3_150 : CV RX3 150 YX3_counted 1 := ⟨gT_ix 269 (by decide +kernel) rfl, gT_ix 271 (by decide +kernel) rfl, gT_ix 1 (by decide +kernel) rfl, gT_ix 4 (by decide +kernel) rfl, gT_ix 272 (by decide +kernel) rfl, by decide +kernel, by decide +kernel, by decide +kernel⟩
theorem cvX3_159 : CV RX3 159 YX1_ticksTillFree 1 := ⟨gT_ix 545 (by decide +kernel) rfl, gT_ix 546 (by decide +kernel) rfl, gT_ix 547 (by decide +kernel) rfl, gT_ix 5 (by decide +kernel) rfl, gT_ix 548 (by decide +kernel) rfl, by decide +kernel, by decide +kernel, by decide +kernel⟩
theorem cvX3_162 : CV RX3 162 YX1_goodShare 0 := ⟨gT_ix 565 (by decide +kernel) rfl, gT_ix 566 (by decide +kernel) rfl, gT_ix 567 (by decide +kernel) rfl, gT_ix 5 (by decide +kernel) rfl, gT_ix 568 (by decide +kernel) rfl, by decide +kernel, by decide +kernel, by decide +kernel⟩
theorem cvX3_197 : CV RX3 197 YX1_sumOf 1 := ⟨gT_ix 273 (by decide +kernel) rfl, gT_ix 274 (by decide +kernel) rfl, gT_ix 275 (by decide +kernel) rfl, gT_ix 5 (by decide +kernel) rfl, gT_ix 276 (by decide +kernel) rfl, by decide +kernel, by decide +kernel, by decide +kernel⟩
theorem cvX3_203 : CV RX3 203 YX1_closedBreakers 0 := ⟨gT_ix 302 (by decide +kernel) rfl, gT_ix 303 (by decide +kernel) rfl, gT_ix 304 (by decide +kernel) rfl, gT_ix 5 (by decide +kernel) rfl, gT_ix 305 (by decide +kernel) rfl, by decide +kernel, by decide +kernel, by decide +kernel⟩
theorem cvL_12 : CV RL 12 YX3_count 1 := ⟨gT_ix 246 (by decide +kernel) rfl, gT_ix 247 (by decide +kernel) rfl, gT_ix 248 (by decide +kernel) rfl, gT_ix 4 (by decide +kernel) rfl, gT_ix 249 (by decide +kernel) rfl, by decide +kernel, by decide +kernel, by decide +kernel⟩
theorem cvL_18 : CV RL 18 YX3_setting 1 := ⟨gT_ix 314 (by decide +kernel) rfl, gT_ix 315 (by decide +kernel) rfl, gT_ix 316 (by decide +kernel) rfl, gT_ix 4 (by decide +kernel) rfl, gT_ix 317 (by decide +kernel) rfl, by decide +kernel, by decide +kernel, by decide +kernel⟩
theorem cvL_21 : CV RL 21 YX3_store 2 := ⟨gT_ix 337 (by decide +kernel) rfl, gT_ix 338 (by decide +kernel) rfl, gT_ix 339 (by decide +kernel) rfl, gT_ix 4 (by decide +kernel) rfl, gT_ix 340 (by decide +kernel) rfl, by decide +kernel, by decide +kernel, by decide +kernel⟩
theorem cvL_25 : CV RL 25 YX3_delay 2 := ⟨gT_ix 346 (by decide +kernel) rfl, gT_ix 347 (by decide +kernel) rfl, gT_ix 348 (by decide +kernel) rfl, gT_ix 4 (by decide +kernel) rfl, gT_ix 349 (by decide +kernel) rfl, by decide +kernel, by decide +kernel, by decide +kernel⟩
theorem cvL_28 : CV RL 28 YX3_onWay 2 := ⟨gT_ix 354 (by decide +kernel) rfl, gT_ix 355 (by decide +kernel) rfl, gT_ix 356 (by decide +kernel) rfl, gT_ix 4 (by decide +kernel) rfl, gT_ix 357 (by decide +kernel) rfl, by decide +kernel, by decide +kernel, by decide +kernel⟩
theorem cvL_31 : CV RL 31 YX3_clearBuffer 0 := ⟨gT_ix 361 (by decide +kernel) rfl, gT_ix 362 (by decide +kernel) rfl, gT_ix 363 (by decide +kernel) rfl, gT_ix 4 (by decide +kernel) rfl, gT_ix 364 (by decide +kernel) rfl, by decide +kernel, by decide +kernel, by decide +kernel⟩
theorem cvL_35 : CS RL 35 YL_low 2 := ⟨gT_ix 369 (by decide +kernel) rfl, gT_ix 370 (by decide +kernel) rfl, gT_ix 3 (by decide +kernel) rfl, gT_ix 371 (by decide +kernel) rfl, by decide +kernel, by decide +kernel, by decide +kernel⟩
theorem cvL_40 : CV RL 40 YX3_append 1 := ⟨gT_ix 373 (by decide +kernel) rfl, gT_ix 374 (by decide +kernel) rfl, gT_ix 375 (by decide +kernel) rfl, gT_ix 4 (by decide +kernel) rfl, gT_ix 376 (by decide +kernel) rfl, by decide +kernel, by decide +kernel, by decide +kernel⟩
theorem cvL_43 : CV RL 43 YX3_delays 1 := ⟨gT_ix 387 (by decide +kernel) rfl, gT_ix 388 (by decide +kernel) rfl, gT_ix 389 (by decide +kernel) rfl, gT_ix 4 (by decide +kernel) rfl, gT_ix 390 (by decide +kernel) rfl, by decide +kernel, by decide +kernel, by decide +kernel⟩
theorem cvL_46 : CV RL 46 YX3_set 2 := ⟨gT_ix 419 (by decide +kernel) rfl, gT_ix 420 (by decide +kernel) rfl, gT_ix 421 (by decide +kernel) rfl, gT_ix 4 (by decide +kernel) rfl, gT_ix 422 (by decide +kernel) rfl, by decide +kernel, by decide +kernel, by decide +kernel⟩
theorem cvL_49 : CV RL 49 YX3_close 1 := ⟨gT_ix 427 (by decide +kernel) rfl, gT_ix 428 (by decide +kernel) rfl, gT_ix 429 (by decide +kernel) rfl, gT_ix 4 (by decide +kernel) rfl, gT_ix 430 (by decide +kernel) rfl, by decide +kernel, by decide +kernel, by decide +kernel⟩
theorem cvL_52 : CV RL 52 YX3_pass 1 := ⟨gT_ix 443 (by decide +kernel) rfl, gT_ix 444 (by decide +kernel) rfl, gT_ix 445 (by decide +kernel) rfl, gT_ix 4 (by decide +kernel) rfl, gT_ix 446 (by decide +kernel) rfl, by decide +kernel, by decide +kernel, by decide +kernel⟩
theorem cvL_55 : CV RL 55 YX3_callHealthiest 0 := ⟨gT_ix 493 (by decide +kernel) rfl, gT_ix 494 (by decide +kernel) rfl, gT_ix 495 (by decide +kernel) rfl, gT_ix 4 (by decide +kernel) rfl, gT_ix 496 (by decide +kernel) rfl, by decide +kernel, by decide +kernel, by decide +kernel⟩
theorem cvL_58 : CV RL 58 YX3_callOften 3 := ⟨gT_ix 528 (by decide +kernel) rfl, gT_ix 529 (by decide +kernel) rfl, gT_ix 530 (by decide +kernel) rfl, gT_ix 4 (by decide +kernel) rfl, gT_ix 531 (by decide +kernel) rfl, by decide +kernel, by decide +kernel, by decide +kernel⟩
theorem cvL_62 : CV RL 62 YX3_freeIn 1 := ⟨gT_ix 541 (by decide +kernel) rfl, gT_ix 542 (by decide +kernel) rfl, gT_ix 543 (by decide +kernel) rfl, gT_ix 4 (by decide +kernel) rfl, gT_ix 544 (by decide +kernel) rfl, by decide +kernel, by decide +kernel, by decide +kernel⟩
theorem cvL_65 : CV RL 65 YX3_call 1 := ⟨gT_ix 549 (by decide +kernel) rfl, gT_ix 550 (by decide +kernel) rfl, gT_ix 551 (by decide +kernel) rfl, gT_ix 4 (by decide +kernel) rfl, gT_ix 552 (by decide +kernel) rfl, by decide +kernel, by decide +kernel, by decide +kernel⟩
theorem cvL_68 : CV RL 68 YX3_healthiest 0 := ⟨gT_ix 557 (by decide +kernel) rfl, gT_ix 558 (by decide +kernel) rfl, gT_ix 559 (by decide +kernel) rfl, gT_ix 4 (by decide +kernel) rfl, gT_ix 560 (by decide +kernel) rfl, by decide +kernel, by decide +kernel, by decide +kernel⟩
theorem cvL_71 : CV RL 71 YX3_health 0 := ⟨gT_ix 561 (by decide +kernel) rfl, gT_ix 562 (by decide +kernel) rfl, gT_ix 563 (by decide +kernel) rfl, gT_ix 4 (by decide +kernel) rfl, gT_ix 564 (by decide +kernel) rfl, by decide +kernel, by decide +kernel, by decide +kernel⟩
theorem cvL_75 : CI RL 75 YX3_init 0 := ⟨gT_ix 20 (by decide +kernel) rfl, gT_ix 21 (by decide +kernel) rfl, gT_ix 4 (by decide +kernel) rfl, gT_ix 22 (by decide +kernel) rfl, ⟨by decide +kernel, by decide +kernel, by decide +kernel⟩, rfl, rfl⟩
theorem cvL_76 : CS RL 76 YL_cell 2 := ⟨gT_ix 306 (by decide +kernel) rfl, gT_ix 307 (by decide +kernel) rfl, gT_ix 3 (by decide +kernel) rfl, gT_ix 308 (by decide +kernel) rfl, by decide +kernel, by decide +kernel, by decide +kernel⟩
theorem cvL_80 : CV RL 80 YX3_undo 0 := ⟨gT_ix 165 (by decide +kernel) rfl, gT_ix 166 (by decide +kernel) rfl, gT_ix 167 (by decide +kernel) rfl, gT_ix 4 (by decide +kernel) rfl, gT_ix 168 (by decide +kernel) rfl, by decide +kernel, by decide +kernel, by decide +kernel⟩
theorem cvL_83 : CS RL 83 YL_told 1 := ⟨gT_ix 309 (by decide +kernel) rfl, gT_ix 310 (by decide +kernel) rfl, gT_ix 3 (by decide +kernel) rfl, gT_ix 311 (by decide +kernel) rfl, by decide +kernel, by decide +kernel, by decide +kernel⟩
theorem cvL_87 : CS RL 87 YL_act 3 := ⟨gT_ix 358 (by decide +kernel) rfl, gT_ix 359 (by decide +kernel) rfl, gT_ix 3 (by decide +kernel) rfl, gT_ix 360 (by decide +kernel) rfl, by decide +kernel, by decide +kernel, by decide +kernel⟩
theorem cvL_91 : CS RL 91 YL_holds 1 := ⟨gT_ix 554 (by decide +kernel) rfl, gT_ix 555 (by decide +kernel) rfl, gT_ix 3 (by decide +kernel) rfl, gT_ix 556 (by decide +kernel) rfl, by decide +kernel, by decide +kernel, by decide +kernel⟩
