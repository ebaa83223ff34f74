/-! THE METHODS: their records, and the links of their pools (by program) -/
abbrev YX0_init : YY := (yX0_init, cX0_init, 1, none, { frames := 1, cells := 1, slots := 60, locals := 20 }, [])
abbrev YX0_isFull : YY := (yX0_isFull, cX0_isFull, 1, (some .boolean), { frames := 0, cells := 0, slots := 0, locals := 0 }, [])
abbrev YX0_add : YY := (yX0_add, cX0_add, 2, (some .int), { frames := 1, cells := 0, slots := 0, locals := 20 }, [])
abbrev YX0_empty : YY := (yX0_empty, cX0_empty, 2, (some .int), { frames := 0, cells := 0, slots := 0, locals := 0 }, [])
abbrev YX0_firstWrong : YY := (yX0_firstWrong, cX0_firstWrong, 4, (some .int), { frames := 1, cells := 0, slots := 0, locals := 20 }, [])
abbrev YX0_isComplete : YY := (yX0_isComplete, cX0_isComplete, 1, (some .boolean), { frames := 2, cells := 0, slots := 0, locals := 43 }, [])
abbrev YX0_readInto : YY := (yX0_readInto, cX0_readInto, 4, (some .int), { frames := 1, cells := 0, slots := 0, locals := 23 }, [])
abbrev YX0_isDigit : YY := (yX0_isDigit, cX0_isDigit, 1, (some .boolean), { frames := 0, cells := 0, slots := 0, locals := 0 }, [])
abbrev YX1_init : YY := (yX1_init, cX1_init, 2, none, { frames := 2, cells := 16, slots := 230, locals := 40 }, [])
abbrev YX1_copyFrom : YY := (yX1_copyFrom, cX1_copyFrom, 3, none, { frames := 2, cells := 0, slots := 0, locals := 47 }, [])
abbrev YX1_isFull : YY := (yX1_isFull, cX1_isFull, 1, (some .boolean), { frames := 0, cells := 0, slots := 0, locals := 0 }, [])
abbrev YX1_blocks : YY := (yX1_blocks, cX1_blocks, 2, (some .boolean), { frames := 2, cells := 0, slots := 0, locals := 44 }, [])
abbrev YX1_answerFor : YY := (yX1_answerFor, cX1_answerFor, 3, (some .int), { frames := 1, cells := 0, slots := 0, locals := 22 }, [])
abbrev YX1_trialOf : YY := (yX1_trialOf, cX1_trialOf, 3, (some .int), { frames := 0, cells := 0, slots := 0, locals := 0 }, [])
abbrev YX1_ring : YY := (yX1_ring, cX1_ring, 6, (some .int), { frames := 4, cells := 0, slots := 0, locals := 90 }, [])
abbrev YX1_sendOff : YY := (yX1_sendOff, cX1_sendOff, 4, none, { frames := 1, cells := 0, slots := 0, locals := 20 }, [])
abbrev YX1_ringOften : YY := (yX1_ringOften, cX1_ringOften, 7, (some .int), { frames := 5, cells := 0, slots := 0, locals := 115 }, [])
abbrev YX1_letPass : YY := (yX1_letPass, cX1_letPass, 4, (some .int), { frames := 5, cells := 0, slots := 0, locals := 114 }, [])
abbrev YX1_tick : YY := (yX1_tick, cX1_tick, 5, (some .int), { frames := 4, cells := 0, slots := 0, locals := 90 }, [])
abbrev YX1_moveCall : YY := (yX1_moveCall, cX1_moveCall, 4, none, { frames := 0, cells := 0, slots := 0, locals := 0 }, [])
abbrev YX1_settle : YY := (yX1_settle, cX1_settle, 6, none, { frames := 3, cells := 0, slots := 0, locals := 65 }, [])
abbrev YX1_isBad : YY := (yX1_isBad, cX1_isBad, 2, (some .boolean), { frames := 0, cells := 0, slots := 0, locals := 0 }, [])
abbrev YX1_settleTrial : YY := (yX1_settleTrial, cX1_settleTrial, 3, none, { frames := 2, cells := 0, slots := 0, locals := 42 }, [])
abbrev YX1_nextCut : YY := (yX1_nextCut, cX1_nextCut, 2, (some .int), { frames := 1, cells := 0, slots := 0, locals := 21 }, [])
abbrev YX1_settleInWindow : YY := (yX1_settleInWindow, cX1_settleInWindow, 4, none, { frames := 2, cells := 0, slots := 0, locals := 42 }, [])
abbrev YX1_closeByHand : YY := (yX1_closeByHand, cX1_closeByHand, 4, (some .int), { frames := 1, cells := 0, slots := 0, locals := 22 }, [])
abbrev YX1_ticksTillFree : YY := (yX1_ticksTillFree, cX1_ticksTillFree, 5, (some .int), { frames := 2, cells := 0, slots := 0, locals := 42 }, [])
abbrev YX1_healthiestStore : YY := (yX1_healthiestStore, cX1_healthiestStore, 3, (some .int), { frames := 3, cells := 0, slots := 0, locals := 65 }, [])
abbrev YX1_isHealthier : YY := (yX1_isHealthier, cX1_isHealthier, 5, (some .boolean), { frames := 2, cells := 0, slots := 0, locals := 41 }, [])
abbrev YX1_closedBreakers : YY := (yX1_closedBreakers, cX1_closedBreakers, 3, (some .int), { frames := 0, cells := 0, slots := 0, locals := 0 }, [])
abbrev YX1_numberOf : YY := (yX1_numberOf, cX1_numberOf, 4, (some .int), { frames := 2, cells := 0, slots := 0, locals := 42 }, [])
abbrev YX1_sumOf : YY := (yX1_sumOf, cX1_sumOf, 4, (some .int), { frames := 3, cells := 0, slots := 0, locals := 65 }, [])
abbrev YX1_goodShare : YY := (yX1_goodShare, cX1_goodShare, 2, (some .double), { frames := 4, cells := 0, slots := 0, locals := 88 }, [])
abbrev YX2_init : YY := (yX2_init, cX2_init, 1, none, { frames := 1, cells := 1, slots := 20, locals := 20 }, [])
abbrev YX2_copyFrom : YY := (yX2_copyFrom, cX2_copyFrom, 2, none, { frames := 1, cells := 0, slots := 0, locals := 26 }, [])
abbrev YX2_takeRow : YY := (yX2_takeRow, cX2_takeRow, 3, (some .int), { frames := 2, cells := 0, slots := 0, locals := 46 }, [])
abbrev YX2_takeDelay : YY := (yX2_takeDelay, cX2_takeDelay, 2, (some .int), { frames := 1, cells := 0, slots := 0, locals := 20 }, [])
abbrev YX2_nextPlace : YY := (yX2_nextPlace, cX2_nextPlace, 1, (some .int), { frames := 0, cells := 0, slots := 0, locals := 0 }, [])
abbrev YX2_windowSize : YY := (yX2_windowSize, cX2_windowSize, 2, (some .int), { frames := 1, cells := 0, slots := 0, locals := 21 }, [])
abbrev YX2_badInWindow : YY := (yX2_badInWindow, cX2_badInWindow, 2, (some .int), { frames := 1, cells := 0, slots := 0, locals := 20 }, [])
abbrev YX2_noteOutcome : YY := (yX2_noteOutcome, cX2_noteOutcome, 2, none, { frames := 1, cells := 0, slots := 0, locals := 21 }, [])
abbrev YX2_shut : YY := (yX2_shut, cX2_shut, 1, none, { frames := 0, cells := 0, slots := 0, locals := 0 }, [])
abbrev YX2_cutOff : YY := (yX2_cutOff, cX2_cutOff, 2, none, { frames := 0, cells := 0, slots := 0, locals := 0 }, [])
abbrev YX2_waitATick : YY := (yX2_waitATick, cX2_waitATick, 1, none, { frames := 0, cells := 0, slots := 0, locals := 0 }, [])
abbrev YX3_init : YY := (yX3_init, cX3_init, 2, none, { frames := 3, cells := 139, slots := 1964, locals := 61 }, [])
abbrev YX3_call : YY := (yX3_call, cX3_call, 2, (some .int), { frames := 7, cells := 2, slots := 12, locals := 115 }, [])
abbrev YX3_callOften : YY := (yX3_callOften, cX3_callOften, 4, (some .int), { frames := 7, cells := 3, slots := 18, locals := 141 }, [])
abbrev YX3_callHealthiest : YY := (yX3_callHealthiest, cX3_callHealthiest, 2, (some .int), { frames := 6, cells := 1, slots := 6, locals := 115 }, [])
abbrev YX3_close : YY := (yX3_close, cX3_close, 2, (some .int), { frames := 7, cells := 1, slots := 6, locals := 110 }, [])
abbrev YX3_set : YY := (yX3_set, cX3_set, 4, (some .int), { frames := 7, cells := 2, slots := 12, locals := 112 }, [])
abbrev YX3_pass : YY := (yX3_pass, cX3_pass, 2, (some .int), { frames := 7, cells := 1, slots := 6, locals := 137 }, [])
abbrev YX3_append : YY := (yX3_append, cX3_append, 2, (some .int), { frames := 7, cells := 2, slots := 12, locals := 112 }, [])
abbrev YX3_clearBuffer : YY := (yX3_clearBuffer, cX3_clearBuffer, 1, (some .int), { frames := 1, cells := 0, slots := 0, locals := 21 }, [])
abbrev YX3_firstError : YY := (yX3_firstError, cX3_firstError, 1, (some .int), { frames := 2, cells := 0, slots := 0, locals := 43 }, [])
abbrev YX3_delays : YY := (yX3_delays, cX3_delays, 3, (some .int), { frames := 7, cells := 2, slots := 12, locals := 110 }, [])
abbrev YX3_undo : YY := (yX3_undo, cX3_undo, 1, (some .int), { frames := 6, cells := 1, slots := 6, locals := 90 }, [])
abbrev YX3_store : YY := (yX3_store, cX3_store, 3, (some .int), { frames := 7, cells := 2, slots := 12, locals := 112 }, [])
abbrev YX3_delay : YY := (yX3_delay, cX3_delay, 4, (some .int), { frames := 7, cells := 2, slots := 12, locals := 110 }, [])
abbrev YX3_onWay : YY := (yX3_onWay, cX3_onWay, 3, (some .int), { frames := 7, cells := 2, slots := 12, locals := 112 }, [])
abbrev YX3_count : YY := (yX3_count, cX3_count, 2, (some .int), { frames := 7, cells := 1, slots := 6, locals := 112 }, [])
abbrev YX3_setting : YY := (yX3_setting, cX3_setting, 2, (some .int), { frames := 7, cells := 1, slots := 6, locals := 110 }, [])
abbrev YX3_ifCalled : YY := (yX3_ifCalled, cX3_ifCalled, 5, (some .int), { frames := 7, cells := 4, slots := 24, locals := 164 }, [])
abbrev YX3_freeIn : YY := (yX3_freeIn, cX3_freeIn, 2, (some .int), { frames := 7, cells := 1, slots := 6, locals := 110 }, [])
abbrev YX3_healthiest : YY := (yX3_healthiest, cX3_healthiest, 1, (some .int), { frames := 4, cells := 0, slots := 0, locals := 87 }, [])
abbrev YX3_health : YY := (yX3_health, cX3_health, 1, (some .double), { frames := 5, cells := 0, slots := 0, locals := 109 }, [])
abbrev YX3_digest : YY := (yX3_digest, cX3_digest, 5, (some .long), { frames := 7, cells := 0, slots := 0, locals := 164 }, [])
abbrev YX3_mixStore : YY := (yX3_mixStore, cX3_mixStore, 8, (some .long), { frames := 5, cells := 0, slots := 0, locals := 112 }, [])
abbrev YX3_mix : YY := (yX3_mix, cX3_mix, 4, (some .long), { frames := 0, cells := 0, slots := 0, locals := 0 }, [])
abbrev YX3_bitsOfShare : YY := (yX3_bitsOfShare, cX3_bitsOfShare, 8, (some .long), { frames := 0, cells := 0, slots := 0, locals := 0 }, [])
abbrev YX3_counted : YY := (yX3_counted, cX3_counted, 2, (some .int), { frames := 4, cells := 0, slots := 0, locals := 88 }, [])
abbrev YX3_foresee : YY := (yX3_foresee, cX3_foresee, 4, none, { frames := 6, cells := 0, slots := 0, locals := 141 }, [])
abbrev YX3_foreseen : YY := (yX3_foreseen, cX3_foreseen, 5, (some .int), { frames := 4, cells := 0, slots := 0, locals := 88 }, [])
abbrev YX3_save : YY := (yX3_save, cX3_save, 1, none, { frames := 3, cells := 0, slots := 0, locals := 69 }, [])
abbrev YX3_requireStore : YY := (yX3_requireStore, cX3_requireStore, 1, none, { frames := 6, cells := 1, slots := 6, locals := 90 }, [])
abbrev YX3_requireSetting : YY := (yX3_requireSetting, cX3_requireSetting, 1, none, { frames := 6, cells := 1, slots := 6, locals := 90 }, [])
abbrev YX3_requireRange : YY := (yX3_requireRange, cX3_requireRange, 3, none, { frames := 6, cells := 1, slots := 6, locals := 90 }, [])
abbrev YX3_requireNotNegative : YY := (yX3_requireNotNegative, cX3_requireNotNegative, 1, none, { frames := 6, cells := 1, slots := 6, locals := 90 }, [])
abbrev YX4_init : YY := (yX4_init, cX4_init, 2, none, { frames := 1, cells := 5, slots := 1824, locals := 23 }, [])
abbrev YX4_thrown : YY := (yX4_thrown, cX4_thrown, 1, (some .int), { frames := 0, cells := 0, slots := 0, locals := 0 }, [])
abbrev YX4_in : YY := (yX4_in, cX4_in, 3, (some .boolean), { frames := 0, cells := 0, slots := 0, locals := 0 }, [])
abbrev YX4_fails : YY := (yX4_fails, cX4_fails, 2, (some .int), { frames := 0, cells := 0, slots := 0, locals := 0 }, [])
abbrev YX4_isStore : YY := (yX4_isStore, cX4_isStore, 1, (some .boolean), { frames := 1, cells := 0, slots := 0, locals := 22 }, [])
abbrev YX4_of : YY := (yX4_of, cX4_of, 3, (some .int), { frames := 0, cells := 0, slots := 0, locals := 0 }, [])
abbrev YX4_lay : YY := (yX4_lay, cX4_lay, 4, none, { frames := 0, cells := 0, slots := 0, locals := 0 }, [])
abbrev YX4_adds : YY := (yX4_adds, cX4_adds, 3, none, { frames := 0, cells := 0, slots := 0, locals := 0 }, [])
abbrev YX4_callOf : YY := (yX4_callOf, cX4_callOf, 3, (some .int), { frames := 0, cells := 0, slots := 0, locals := 0 }, [])
abbrev YX4_saves : YY := (yX4_saves, cX4_saves, 2, none, { frames := 0, cells := 0, slots := 0, locals := 0 }, [])
abbrev YX4_putAside : YY := (yX4_putAside, cX4_putAside, 2, none, { frames := 0, cells := 0, slots := 0, locals := 0 }, [])
abbrev YX4_takeBack : YY := (yX4_takeBack, cX4_takeBack, 2, none, { frames := 0, cells := 0, slots := 0, locals := 0 }, [])
abbrev YX4_inWindow : YY := (yX4_inWindow, cX4_inWindow, 3, (some .int), { frames := 1, cells := 0, slots := 0, locals := 22 }, [])
abbrev YX4_badInWindow : YY := (yX4_badInWindow, cX4_badInWindow, 4, (some .int), { frames := 2, cells := 0, slots := 0, locals := 44 }, [])
abbrev YX4_cutsOff : YY := (yX4_cutsOff, cX4_cutsOff, 3, none, { frames := 1, cells := 0, slots := 0, locals := 23 }, [])
abbrev YX4_closes : YY := (yX4_closes, cX4_closes, 2, none, { frames := 1, cells := 0, slots := 0, locals := 23 }, [])
abbrev YX4_comesOut : YY := (yX4_comesOut, cX4_comesOut, 7, none, { frames := 3, cells := 0, slots := 0, locals := 67 }, [])
abbrev YX4_hasTrial : YY := (yX4_hasTrial, cX4_hasTrial, 4, (some .boolean), { frames := 1, cells := 0, slots := 0, locals := 22 }, [])
abbrev YX4_isRefused : YY := (yX4_isRefused, cX4_isRefused, 2, (some .boolean), { frames := 2, cells := 0, slots := 0, locals := 45 }, [])
abbrev YX4_calls : YY := (yX4_calls, cX4_calls, 5, (some .int), { frames := 4, cells := 0, slots := 0, locals := 93 }, [])
abbrev YX4_drops : YY := (yX4_drops, cX4_drops, 3, none, { frames := 0, cells := 0, slots := 0, locals := 0 }, [])
abbrev YX4_tick : YY := (yX4_tick, cX4_tick, 7, (some .int), { frames := 4, cells := 0, slots := 0, locals := 93 }, [])
abbrev YX4_ticks : YY := (yX4_ticks, cX4_ticks, 4, (some .int), { frames := 5, cells := 0, slots := 0, locals := 119 }, [])
abbrev YX4_callsOften : YY := (yX4_callsOften, cX4_callsOften, 6, (some .int), { frames := 6, cells := 0, slots := 0, locals := 142 }, [])
abbrev YX4_call : YY := (yX4_call, cX4_call, 2, (some .int), { frames := 5, cells := 0, slots := 0, locals := 117 }, [])
abbrev YX4_callOften : YY := (yX4_callOften, cX4_callOften, 4, (some .int), { frames := 7, cells := 0, slots := 0, locals := 167 }, [])
abbrev YX4_onWayOf : YY := (yX4_onWayOf, cX4_onWayOf, 4, (some .int), { frames := 1, cells := 0, slots := 0, locals := 22 }, [])
abbrev YX4_bestStore : YY := (yX4_bestStore, cX4_bestStore, 5, (some .int), { frames := 3, cells := 0, slots := 0, locals := 67 }, [])
abbrev YX4_callHealthiest : YY := (yX4_callHealthiest, cX4_callHealthiest, 2, (some .int), { frames := 5, cells := 0, slots := 0, locals := 117 }, [])
abbrev YX4_close : YY := (yX4_close, cX4_close, 4, (some .int), { frames := 2, cells := 0, slots := 0, locals := 44 }, [])
abbrev YX4_isSetting : YY := (yX4_isSetting, cX4_isSetting, 2, (some .boolean), { frames := 1, cells := 0, slots := 0, locals := 22 }, [])
abbrev YX4_set : YY := (yX4_set, cX4_set, 4, (some .int), { frames := 2, cells := 0, slots := 0, locals := 43 }, [])
abbrev YX4_pass : YY := (yX4_pass, cX4_pass, 2, (some .int), { frames := 6, cells := 0, slots := 0, locals := 142 }, [])
abbrev YX4_append : YY := (yX4_append, cX4_append, 2, (some .int), { frames := 1, cells := 0, slots := 0, locals := 22 }, [])
abbrev YX4_clearBuffer : YY := (yX4_clearBuffer, cX4_clearBuffer, 2, (some .int), { frames := 0, cells := 0, slots := 0, locals := 0 }, [])
abbrev YX4_sign : YY := (yX4_sign, cX4_sign, 1, (some .int), { frames := 0, cells := 0, slots := 0, locals := 0 }, [])
abbrev YX4_readsNumber : YY := (yX4_readsNumber, cX4_readsNumber, 2, none, { frames := 1, cells := 0, slots := 0, locals := 22 }, [])
abbrev YX4_readsAll : YY := (yX4_readsAll, cX4_readsAll, 1, none, { frames := 2, cells := 0, slots := 0, locals := 43 }, [])
abbrev YX4_firstError : YY := (yX4_firstError, cX4_firstError, 1, (some .int), { frames := 3, cells := 0, slots := 0, locals := 63 }, [])
abbrev YX4_delays : YY := (yX4_delays, cX4_delays, 4, (some .int), { frames := 3, cells := 0, slots := 0, locals := 63 }, [])
abbrev YX4_undo : YY := (yX4_undo, cX4_undo, 2, (some .int), { frames := 1, cells := 0, slots := 0, locals := 21 }, [])
abbrev YX4_tellsStore : YY := (yX4_tellsStore, cX4_tellsStore, 3, (some .int), { frames := 3, cells := 0, slots := 0, locals := 67 }, [])
abbrev YX4_store : YY := (yX4_store, cX4_store, 3, (some .int), { frames := 4, cells := 0, slots := 0, locals := 89 }, [])
abbrev YX4_delay : YY := (yX4_delay, cX4_delay, 3, (some .int), { frames := 2, cells := 0, slots := 0, locals := 42 }, [])
abbrev YX4_onWay : YY := (yX4_onWay, cX4_onWay, 3, (some .int), { frames := 1, cells := 0, slots := 0, locals := 22 }, [])
abbrev YX4_overStores : YY := (yX4_overStores, cX4_overStores, 4, (some .int), { frames := 1, cells := 0, slots := 0, locals := 22 }, [])
abbrev YX4_counts : YY := (yX4_counts, cX4_counts, 2, (some .int), { frames := 2, cells := 0, slots := 0, locals := 45 }, [])
abbrev YX4_count : YY := (yX4_count, cX4_count, 2, (some .int), { frames := 3, cells := 0, slots := 0, locals := 66 }, [])
abbrev YX4_setting : YY := (yX4_setting, cX4_setting, 2, (some .int), { frames := 1, cells := 0, slots := 0, locals := 22 }, [])
abbrev YX4_would : YY := (yX4_would, cX4_would, 9, (some .int), { frames := 7, cells := 0, slots := 0, locals := 167 }, [])
abbrev YX4_ifCalled : YY := (yX4_ifCalled, cX4_ifCalled, 5, (some .int), { frames := 8, cells := 0, slots := 0, locals := 195 }, [])
abbrev YX4_untilFree : YY := (yX4_untilFree, cX4_untilFree, 3, (some .int), { frames := 5, cells := 0, slots := 0, locals := 119 }, [])
abbrev YX4_freeIn : YY := (yX4_freeIn, cX4_freeIn, 2, (some .int), { frames := 6, cells := 0, slots := 0, locals := 141 }, [])
abbrev YX4_healthiest : YY := (yX4_healthiest, cX4_healthiest, 1, (some .int), { frames := 4, cells := 0, slots := 0, locals := 91 }, [])
abbrev YX4_share : YY := (yX4_share, cX4_share, 2, (some .double), { frames := 0, cells := 0, slots := 0, locals := 0 }, [])
abbrev YX4_health : YY := (yX4_health, cX4_health, 1, (some .double), { frames := 1, cells := 0, slots := 0, locals := 21 }, [])
abbrev YX4_hashes : YY := (yX4_hashes, cX4_hashes, 3, none, { frames := 0, cells := 0, slots := 0, locals := 0 }, [])
abbrev YX4_digest : YY := (yX4_digest, cX4_digest, 3, (some .long), { frames := 8, cells := 0, slots := 0, locals := 195 }, [])
abbrev YJxe99ae_isNaN_b9ae7 : YY := (yJxe99ae_isNaN_b9ae7, cJxe99ae_isNaN_b9ae7, 2, (some .boolean), { frames := 0, cells := 0, slots := 0, locals := 0 }, [])
abbrev YJxe99ae_doubleToLongBits_ccdee : YY := (yJxe99ae_doubleToLongBits_ccdee, cJxe99ae_doubleToLongBits_ccdee, 2, (some .long), { frames := 1, cells := 0, slots := 0, locals := 26 }, [])
abbrev YJ6_bitCount_0f7a4 : YY := (yJ6_bitCount_0f7a4, cJ6_bitCount_0f7a4, 1, (some .int), { frames := 0, cells := 0, slots := 0, locals := 0 }, [])
abbrev YJ9_min_7cf53 : YY := (yJ9_min_7cf53, cJ9_min_7cf53, 2, (some .int), { frames := 0, cells := 0, slots := 0, locals := 0 }, [])
abbrev YJ7_fill_53178 : YY := (yJ7_fill_53178, cJ7_fill_53178, 4, none, { frames := 0, cells := 0, slots := 0, locals := 0 }, [])
abbrev YL_call : YY := (yL_call, cL_call, 4, (some .int), { frames := 8, cells := 2, slots := 12, locals := 136 }, [(0, 9, 12, 13), (0, 9, 15, 15)])
abbrev YL_callOften : YY := (yL_callOften, cL_callOften, 6, (some .int), { frames := 8, cells := 3, slots := 18, locals := 164 }, [(0, 12, 15, 13), (0, 12, 19, 21)])
abbrev YL_callHealthiest : YY := (yL_callHealthiest, cL_callHealthiest, 3, (some .int), { frames := 7, cells := 1, slots := 6, locals := 136 }, [(0, 8, 11, 15)])
abbrev YL_close : YY := (yL_close, cL_close, 4, (some .int), { frames := 8, cells := 1, slots := 6, locals := 131 }, [(0, 9, 12, 13)])
abbrev YL_set : YY := (yL_set, cL_set, 5, (some .int), { frames := 8, cells := 2, slots := 12, locals := 135 }, [(0, 10, 13, 13), (0, 10, 17, 21)])
abbrev YL_pass : YY := (yL_pass, cL_pass, 4, (some .int), { frames := 8, cells := 1, slots := 6, locals := 158 }, [(0, 9, 12, 21)])
abbrev YL_append : YY := (yL_append, cL_append, 4, (some .int), { frames := 8, cells := 2, slots := 12, locals := 133 }, [(0, 9, 12, 21), (0, 9, 15, 15)])
abbrev YL_delays : YY := (yL_delays, cL_delays, 4, (some .int), { frames := 8, cells := 2, slots := 12, locals := 132 }, [(0, 9, 12, 13), (0, 9, 15, 21)])
abbrev YL_undo : YY := (yL_undo, cL_undo, 3, (some .int), { frames := 7, cells := 1, slots := 6, locals := 110 }, [(0, 8, 11, 15)])
abbrev YL_store : YY := (yL_store, cL_store, 5, (some .int), { frames := 8, cells := 2, slots := 12, locals := 134 }, [(0, 10, 13, 13), (0, 10, 17, 21)])
abbrev YL_delay : YY := (yL_delay, cL_delay, 5, (some .int), { frames := 8, cells := 2, slots := 12, locals := 133 }, [(0, 10, 13, 13), (0, 10, 17, 21)])
abbrev YL_onWay : YY := (yL_onWay, cL_onWay, 5, (some .int), { frames := 8, cells := 2, slots := 12, locals := 134 }, [(0, 10, 13, 21)])
abbrev YL_count : YY := (yL_count, cL_count, 4, (some .int), { frames := 8, cells := 1, slots := 6, locals := 133 }, [(0, 9, 12, 21)])
abbrev YL_setting : YY := (yL_setting, cL_setting, 4, (some .int), { frames := 8, cells := 1, slots := 6, locals := 131 }, [(0, 9, 12, 13)])
abbrev YL_ifCalled : YY := (yL_ifCalled, cL_ifCalled, 7, (some .int), { frames := 8, cells := 4, slots := 24, locals := 188 }, [(0, 14, 17, 13), (0, 14, 21, 21)])
abbrev YL_freeIn : YY := (yL_freeIn, cL_freeIn, 4, (some .int), { frames := 8, cells := 1, slots := 6, locals := 131 }, [(0, 9, 12, 13)])
theorem flX3_10 : FL RX3 10 3 0 := ⟨_, rfl, by decide, gT_ix 189 (by decide +kernel) rfl⟩
theorem flX3_16 : FL RX3 16 3 1 := ⟨_, rfl, by decide, gT_ix 190 (by decide +kernel) rfl⟩
theorem flX3_19 : FL RX3 19 3 2 := ⟨_, rfl, by decide, gT_ix 191 (by decide +kernel) rfl⟩
theorem flX3_26 : FL RX3 26 3 5 := ⟨_, rfl, by decide, gT_ix 194 (by decide +kernel) rfl⟩
theorem flX3_81 : FL RX3 81 1 1 := ⟨_, rfl, by decide, gT_ix 147 (by decide +kernel) rfl⟩
theorem flX3_107 : FL RX3 107 1 0 := ⟨_, rfl, by decide, gT_ix 145 (by decide +kernel) rfl⟩
theorem flX3_117 : FL RX3 117 3 4 := ⟨_, rfl, by decide, gT_ix 193 (by decide +kernel) rfl⟩
theorem flX3_123 : FL RX3 123 3 3 := ⟨_, rfl, by decide, gT_ix 192 (by decide +kernel) rfl⟩
theorem flX3_137 : FL RX3 137 2 1 := ⟨_, rfl, by decide, gT_ix 83 (by decide +kernel) rfl⟩
theorem flX3_140 : FL RX3 140 2 0 := ⟨_, rfl, by decide, gT_ix 80 (by decide +kernel) rfl⟩
theorem flX3_143 : FL RX3 143 1 3 := ⟨_, rfl, by decide, gT_ix 151 (by decide +kernel) rfl⟩
theorem flX3_146 : FL RX3 146 1 2 := ⟨_, rfl, by decide, gT_ix 149 (by decide +kernel) rfl⟩
theorem flX3_180 : FL RX3 180 0 1 := ⟨_, rfl, by decide, gT_ix 183 (by decide +kernel) rfl⟩
theorem flX3_183 : FL RX3 183 0 0 := ⟨_, rfl, by decide, gT_ix 181 (by decide +kernel) rfl⟩
theorem flX3_194 : FL RX3 194 1 4 := ⟨_, rfl, by decide, gT_ix 153 (by decide +kernel) rfl⟩
theorem flX3_200 : FL RX3 200 1 5 := ⟨_, rfl, by decide, gT_ix 155 (by decide +kernel) rfl⟩
theorem flX3_206 : FL RX3 206 1 6 := ⟨_, rfl, by decide, gT_ix 157 (by decide +kernel) rfl⟩
theorem flX3_209 : FL RX3 209 2 9 := ⟨_, rfl, by decide, gT_ix 99 (by decide +kernel) rfl⟩
theorem flX3_212 : FL RX3 212 2 10 := ⟨_, rfl, by decide, gT_ix 102 (by decide +kernel) rfl⟩
theorem flX3_215 : FL RX3 215 2 3 := ⟨_, rfl, by decide, gT_ix 87 (by decide +kernel) rfl⟩
theorem flX0_11 : FL RX0 11 0 0 := ⟨_, rfl, by decide, gT_ix 180 (by decide +kernel) rfl⟩
theorem flX0_15 : FL RX0 15 0 1 := ⟨_, rfl, by decide, gT_ix 182 (by decide +kernel) rfl⟩
theorem flX1_11 : FL RX1 11 1 0 := ⟨_, rfl, by decide, gT_ix 144 (by decide +kernel) rfl⟩
theorem flX1_17 : FL RX1 17 1 1 := ⟨_, rfl, by decide, gT_ix 146 (by decide +kernel) rfl⟩
theorem flX1_23 : FL RX1 23 1 2 := ⟨_, rfl, by decide, gT_ix 148 (by decide +kernel) rfl⟩
theorem flX1_40 : FL RX1 40 1 3 := ⟨_, rfl, by decide, gT_ix 150 (by decide +kernel) rfl⟩
theorem flX1_44 : FL RX1 44 1 4 := ⟨_, rfl, by decide, gT_ix 152 (by decide +kernel) rfl⟩
theorem flX1_47 : FL RX1 47 1 5 := ⟨_, rfl, by decide, gT_ix 154 (by decide +kernel) rfl⟩
theorem flX1_50 : FL RX1 50 1 6 := ⟨_, rfl, by decide, gT_ix 156 (by decide +kernel) rfl⟩
theorem flX1_61 : FL RX1 61 2 3 := ⟨_, rfl, by decide, gT_ix 86 (by decide +kernel) rfl⟩
theorem flX1_67 : FL RX1 67 2 10 := ⟨_, rfl, by decide, gT_ix 101 (by decide +kernel) rfl⟩
theorem flX1_70 : FL RX1 70 2 9 := ⟨_, rfl, by decide, gT_ix 98 (by decide +kernel) rfl⟩
theorem flX1_77 : FL RX1 77 2 6 := ⟨_, rfl, by decide, gT_ix 93 (by decide +kernel) rfl⟩
theorem flX1_88 : FL RX1 88 2 12 := ⟨_, rfl, by decide, gT_ix 106 (by decide +kernel) rfl⟩
theorem flX1_111 : FL RX1 111 2 11 := ⟨_, rfl, by decide, gT_ix 104 (by decide +kernel) rfl⟩
theorem flX1_132 : FL RX1 132 2 5 := ⟨_, rfl, by decide, gT_ix 91 (by decide +kernel) rfl⟩
theorem flX1_145 : FL RX1 145 2 8 := ⟨_, rfl, by decide, gT_ix 96 (by decide +kernel) rfl⟩
theorem flX1_151 : FL RX1 151 2 4 := ⟨_, rfl, by decide, gT_ix 89 (by decide +kernel) rfl⟩
theorem flX1_161 : FL RX1 161 2 13 := ⟨_, rfl, by decide, gT_ix 108 (by decide +kernel) rfl⟩
theorem flX1_164 : FL RX1 164 2 0 := ⟨_, rfl, by decide, gT_ix 81 (by decide +kernel) rfl⟩
theorem flX2_9 : FL RX2 9 2 0 := ⟨_, rfl, by decide, gT_ix 79 (by decide +kernel) rfl⟩
theorem flX2_15 : FL RX2 15 2 1 := ⟨_, rfl, by decide, gT_ix 82 (by decide +kernel) rfl⟩
theorem flX2_19 : FL RX2 19 2 3 := ⟨_, rfl, by decide, gT_ix 85 (by decide +kernel) rfl⟩
theorem flX2_28 : FL RX2 28 2 2 := ⟨_, rfl, by decide, gT_ix 84 (by decide +kernel) rfl⟩
theorem flX2_31 : FL RX2 31 2 4 := ⟨_, rfl, by decide, gT_ix 88 (by decide +kernel) rfl⟩
theorem flX2_34 : FL RX2 34 2 5 := ⟨_, rfl, by decide, gT_ix 90 (by decide +kernel) rfl⟩
theorem flX2_37 : FL RX2 37 2 6 := ⟨_, rfl, by decide, gT_ix 92 (by decide +kernel) rfl⟩
theorem flX2_40 : FL RX2 40 2 7 := ⟨_, rfl, by decide, gT_ix 94 (by decide +kernel) rfl⟩
theorem flX2_43 : FL RX2 43 2 8 := ⟨_, rfl, by decide, gT_ix 95 (by decide +kernel) rfl⟩
theorem flX2_46 : FL RX2 46 2 9 := ⟨_, rfl, by decide, gT_ix 97 (by decide +kernel) rfl⟩
theorem flX2_49 : FL RX2 49 2 10 := ⟨_, rfl, by decide, gT_ix 100 (by decide +kernel) rfl⟩
theorem flX2_52 : FL RX2 52 2 11 := ⟨_, rfl, by decide, gT_ix 103 (by decide +kernel) rfl⟩
theorem flX2_55 : FL RX2 55 2 12 := ⟨_, rfl, by decide, gT_ix 105 (by decide +kernel) rfl⟩
theorem flX2_58 : FL RX2 58 2 13 := ⟨_, rfl, by decide, gT_ix 107 (by decide +kernel) rfl⟩
theorem flX4_7 : FL RX4 7 4 1 := ⟨_, rfl, by decide, gT_ix 693 (by decide +kernel) rfl⟩
theorem flX4_13 : FL RX4 13 4 2 := ⟨_, rfl, by decide, gT_ix 694 (by decide +kernel) rfl⟩
theorem flX4_16 : FL RX4 16 4 3 := ⟨_, rfl, by decide, gT_ix 695 (by decide +kernel) rfl⟩
theorem flX4_19 : FL RX4 19 4 5 := ⟨_, rfl, by decide, gT_ix 697 (by decide +kernel) rfl⟩
theorem flX4_22 : FL RX4 22 4 9 := ⟨_, rfl, by decide, gT_ix 701 (by decide +kernel) rfl⟩
theorem flX4_25 : FL RX4 25 4 0 := ⟨_, rfl, by decide, gT_ix 692 (by decide +kernel) rfl⟩
theorem flX4_37 : FL RX4 37 4 4 := ⟨_, rfl, by decide, gT_ix 696 (by decide +kernel) rfl⟩
theorem flX4_113 : FL RX4 113 4 6 := ⟨_, rfl, by decide, gT_ix 698 (by decide +kernel) rfl⟩
theorem flX4_116 : FL RX4 116 4 7 := ⟨_, rfl, by decide, gT_ix 699 (by decide +kernel) rfl⟩
theorem flX4_122 : FL RX4 122 4 8 := ⟨_, rfl, by decide, gT_ix 700 (by decide +kernel) rfl⟩
theorem flX4_126 : FL RX4 126 4 10 := ⟨_, rfl, by decide, gT_ix 702 (by decide +kernel) rfl⟩
theorem flX4_163 : FL RX4 163 4 11 := ⟨_, rfl, by decide, gT_ix 703 (by decide +kernel) rfl⟩
theorem cvX0_19 : CV RX0 19 YX0_isFull 0 := ⟨gT_ix 595 (by decide +kernel) rfl, gT_ix 587 (by decide +kernel) rfl, gT_ix 588 (by decide +kernel) rfl, gT_ix 43 (by decide +kernel) rfl, gT_ix 589 (by decide +kernel) rfl, by decide +kernel, by decide +kernel, by decide +kernel⟩
theorem cvX0_23 : CS RX0 23 YX0_isDigit 1 := ⟨gT_ix 224 (by decide +kernel) rfl, gT_ix 225 (by decide +kernel) rfl, gT_ix 43 (by decide +kernel) rfl, gT_ix 226 (by decide +kernel) rfl, by decide +kernel, by decide +kernel, by decide +kernel⟩
theorem cvX0_27 : CV RX0 27 YX0_firstWrong 0 := ⟨gT_ix 607 (by decide +kernel) rfl, gT_ix 221 (by decide +kernel) rfl, gT_ix 222 (by decide +kernel) rfl, gT_ix 43 (by decide +kernel) rfl, gT_ix 223 (by decide +kernel) rfl, by decide +kernel, by decide +kernel, by decide +kernel⟩
theorem cvX0_31 : CS RX0 31 YJ7_fill_53178 2 := ⟨gT_ix 617 (by decide +kernel) rfl, gT_ix 618 (by decide +kernel) rfl, gT_ix 54 (by decide +kernel) rfl, gT_ix 619 (by decide +kernel) rfl, by decide +kernel, by decide +kernel, by decide +kernel⟩
theorem cvX0_37 : CS RX0 37 YJ9_min_7cf53 2 := ⟨gT_ix 620 (by decide +kernel) rfl, gT_ix 270 (by decide +kernel) rfl, gT_ix 50 (by decide +kernel) rfl, gT_ix 271 (by decide +kernel) rfl, by decide +kernel, by decide +kernel, by decide +kernel⟩
theorem cvX1_26 : CI RX1 26 YX2_init 0 := ⟨gT_ix 75 (by decide +kernel) rfl, gT_ix 76 (by decide +kernel) rfl, gT_ix 41 (by decide +kernel) rfl, gT_ix 77 (by decide +kernel) rfl, ⟨by decide +kernel, by decide +kernel, by decide +kernel⟩, rfl, rfl⟩
theorem cvX1_36 : CV RX1 36 YX2_copyFrom 1 := ⟨gT_ix 302 (by decide +kernel) rfl, gT_ix 303 (by decide +kernel) rfl, gT_ix 304 (by decide +kernel) rfl, gT_ix 41 (by decide +kernel) rfl, gT_ix 305 (by decide +kernel) rfl, by decide +kernel, by decide +kernel, by decide +kernel⟩
theorem cvX1_53 : CV RX1 53 YX1_isFull 0 := ⟨gT_ix 315 (by decide +kernel) rfl, gT_ix 316 (by decide +kernel) rfl, gT_ix 317 (by decide +kernel) rfl, gT_ix 40 (by decide +kernel) rfl, gT_ix 318 (by decide +kernel) rfl, by decide +kernel, by decide +kernel, by decide +kernel⟩
theorem cvX1_57 : CV RX1 57 YX1_answerFor 1 := ⟨gT_ix 319 (by decide +kernel) rfl, gT_ix 320 (by decide +kernel) rfl, gT_ix 321 (by decide +kernel) rfl, gT_ix 40 (by decide +kernel) rfl, gT_ix 322 (by decide +kernel) rfl, by decide +kernel, by decide +kernel, by decide +kernel⟩
theorem cvX1_64 : CV RX1 64 YX1_trialOf 1 := ⟨gT_ix 323 (by decide +kernel) rfl, gT_ix 324 (by decide +kernel) rfl, gT_ix 325 (by decide +kernel) rfl, gT_ix 40 (by decide +kernel) rfl, gT_ix 326 (by decide +kernel) rfl, by decide +kernel, by decide +kernel, by decide +kernel⟩
theorem cvX1_73 : CV RX1 73 YX2_takeDelay 0 := ⟨gT_ix 331 (by decide +kernel) rfl, gT_ix 332 (by decide +kernel) rfl, gT_ix 333 (by decide +kernel) rfl, gT_ix 41 (by decide +kernel) rfl, gT_ix 334 (by decide +kernel) rfl, by decide +kernel, by decide +kernel, by decide +kernel⟩
theorem cvX1_80 : CV RX1 80 YX1_settle 4 := ⟨gT_ix 336 (by decide +kernel) rfl, gT_ix 337 (by decide +kernel) rfl, gT_ix 338 (by decide +kernel) rfl, gT_ix 40 (by decide +kernel) rfl, gT_ix 339 (by decide +kernel) rfl, by decide +kernel, by decide +kernel, by decide +kernel⟩
theorem cvX1_84 : CV RX1 84 YX1_sendOff 3 := ⟨gT_ix 370 (by decide +kernel) rfl, gT_ix 371 (by decide +kernel) rfl, gT_ix 372 (by decide +kernel) rfl, gT_ix 40 (by decide +kernel) rfl, gT_ix 373 (by decide +kernel) rfl, by decide +kernel, by decide +kernel, by decide +kernel⟩
theorem cvX1_91 : CV RX1 91 YX1_blocks 1 := ⟨gT_ix 311 (by decide +kernel) rfl, gT_ix 312 (by decide +kernel) rfl, gT_ix 313 (by decide +kernel) rfl, gT_ix 40 (by decide +kernel) rfl, gT_ix 314 (by decide +kernel) rfl, by decide +kernel, by decide +kernel, by decide +kernel⟩
theorem cvX1_95 : CV RX1 95 YX1_ring 1 := ⟨gT_ix 327 (by decide +kernel) rfl, gT_ix 328 (by decide +kernel) rfl, gT_ix 329 (by decide +kernel) rfl, gT_ix 40 (by decide +kernel) rfl, gT_ix 330 (by decide +kernel) rfl, by decide +kernel, by decide +kernel, by decide +kernel⟩
theorem cvX1_98 : CV RX1 98 YX1_tick 0 := ⟨gT_ix 374 (by decide +kernel) rfl, gT_ix 375 (by decide +kernel) rfl, gT_ix 376 (by decide +kernel) rfl, gT_ix 40 (by decide +kernel) rfl, gT_ix 377 (by decide +kernel) rfl, by decide +kernel, by decide +kernel, by decide +kernel⟩
theorem cvX1_101 : CV RX1 101 YX1_moveCall 2 := ⟨gT_ix 378 (by decide +kernel) rfl, gT_ix 379 (by decide +kernel) rfl, gT_ix 380 (by decide +kernel) rfl, gT_ix 40 (by decide +kernel) rfl, gT_ix 381 (by decide +kernel) rfl, by decide +kernel, by decide +kernel, by decide +kernel⟩
theorem cvX1_105 : CV RX1 105 YX2_waitATick 0 := ⟨gT_ix 382 (by decide +kernel) rfl, gT_ix 383 (by decide +kernel) rfl, gT_ix 384 (by decide +kernel) rfl, gT_ix 41 (by decide +kernel) rfl, gT_ix 385 (by decide +kernel) rfl, by decide +kernel, by decide +kernel, by decide +kernel⟩
theorem cvX1_108 : CV RX1 108 YX1_isBad 1 := ⟨gT_ix 340 (by decide +kernel) rfl, gT_ix 341 (by decide +kernel) rfl, gT_ix 342 (by decide +kernel) rfl, gT_ix 40 (by decide +kernel) rfl, gT_ix 343 (by decide +kernel) rfl, by decide +kernel, by decide +kernel, by decide +kernel⟩
theorem cvX1_114 : CV RX1 114 YX1_settleTrial 2 := ⟨gT_ix 344 (by decide +kernel) rfl, gT_ix 345 (by decide +kernel) rfl, gT_ix 346 (by decide +kernel) rfl, gT_ix 40 (by decide +kernel) rfl, gT_ix 347 (by decide +kernel) rfl, by decide +kernel, by decide +kernel, by decide +kernel⟩
theorem cvX1_118 : CV RX1 118 YX1_settleInWindow 2 := ⟨gT_ix 361 (by decide +kernel) rfl, gT_ix 362 (by decide +kernel) rfl, gT_ix 363 (by decide +kernel) rfl, gT_ix 40 (by decide +kernel) rfl, gT_ix 364 (by decide +kernel) rfl, by decide +kernel, by decide +kernel, by decide +kernel⟩
theorem cvX1_121 : CV RX1 121 YX1_nextCut 1 := ⟨gT_ix 348 (by decide +kernel) rfl, gT_ix 349 (by decide +kernel) rfl, gT_ix 350 (by decide +kernel) rfl, gT_ix 40 (by decide +kernel) rfl, gT_ix 351 (by decide +kernel) rfl, by decide +kernel, by decide +kernel, by decide +kernel⟩
theorem cvX1_125 : CV RX1 125 YX2_cutOff 1 := ⟨gT_ix 353 (by decide +kernel) rfl, gT_ix 354 (by decide +kernel) rfl, gT_ix 355 (by decide +kernel) rfl, gT_ix 41 (by decide +kernel) rfl, gT_ix 356 (by decide +kernel) rfl, by decide +kernel, by decide +kernel, by decide +kernel⟩
theorem cvX1_129 : CV RX1 129 YX2_shut 0 := ⟨gT_ix 357 (by decide +kernel) rfl, gT_ix 358 (by decide +kernel) rfl, gT_ix 359 (by decide +kernel) rfl, gT_ix 41 (by decide +kernel) rfl, gT_ix 360 (by decide +kernel) rfl, by decide +kernel, by decide +kernel, by decide +kernel⟩
theorem cvX1_135 : CS RX1 135 YJ9_min_7cf53 2 := ⟨gT_ix 352 (by decide +kernel) rfl, gT_ix 270 (by decide +kernel) rfl, gT_ix 50 (by decide +kernel) rfl, gT_ix 271 (by decide +kernel) rfl, by decide +kernel, by decide +kernel, by decide +kernel⟩
theorem cvX1_141 : CV RX1 141 YX2_noteOutcome 1 := ⟨gT_ix 365 (by decide +kernel) rfl, gT_ix 366 (by decide +kernel) rfl, gT_ix 367 (by decide +kernel) rfl, gT_ix 41 (by decide +kernel) rfl, gT_ix 368 (by decide +kernel) rfl, by decide +kernel, by decide +kernel, by decide +kernel⟩
theorem cvX1_148 : CV RX1 148 YX2_badInWindow 1 := ⟨gT_ix 239 (by decide +kernel) rfl, gT_ix 240 (by decide +kernel) rfl, gT_ix 241 (by decide +kernel) rfl, gT_ix 41 (by decide +kernel) rfl, gT_ix 242 (by decide +kernel) rfl, by decide +kernel, by decide +kernel, by decide +kernel⟩
theorem cvX1_154 : CV RX1 154 YX1_isHealthier 2 := ⟨gT_ix 235 (by decide +kernel) rfl, gT_ix 236 (by decide +kernel) rfl, gT_ix 237 (by decide +kernel) rfl, gT_ix 40 (by decide +kernel) rfl, gT_ix 238 (by decide +kernel) rfl, by decide +kernel, by decide +kernel, by decide +kernel⟩
theorem cvX1_158 : CV RX1 158 YX2_windowSize 1 := ⟨gT_ix 265 (by decide +kernel) rfl, gT_ix 266 (by decide +kernel) rfl, gT_ix 267 (by decide +kernel) rfl, gT_ix 41 (by decide +kernel) rfl, gT_ix 268 (by decide +kernel) rfl, by decide +kernel, by decide +kernel, by decide +kernel⟩
theorem cvX1_167 : CV RX1 167 YX2_nextPlace 0 := ⟨gT_ix 272 (by decide +kernel) rfl, gT_ix 273 (by decide +kernel) rfl, gT_ix 274 (by decide +kernel) rfl, gT_ix 41 (by decide +kernel) rfl, gT_ix 275 (by decide +kernel) rfl, by decide +kernel, by decide +kernel, by decide +kernel⟩
theorem cvX1_170 : CV RX1 170 YX1_numberOf 2 := ⟨gT_ix 261 (by decide +kernel) rfl, gT_ix 262 (by decide +kernel) rfl, gT_ix 263 (by decide +kernel) rfl, gT_ix 40 (by decide +kernel) rfl, gT_ix 264 (by decide +kernel) rfl, by decide +kernel, by decide +kernel, by decide +kernel⟩
theorem cvX1_173 : CV RX1 173 YX1_sumOf 1 := ⟨gT_ix 257 (by decide +kernel) rfl, gT_ix 258 (by decide +kernel) rfl, gT_ix 259 (by decide +kernel) rfl, gT_ix 40 (by decide +kernel) rfl, gT_ix 260 (by decide +kernel) rfl, by decide +kernel, by decide +kernel, by decide +kernel⟩
theorem cvX2_61 : CV RX2 61 YX0_readInto 1 := ⟨gT_ix 613 (by decide +kernel) rfl, gT_ix 614 (by decide +kernel) rfl, gT_ix 615 (by decide +kernel) rfl, gT_ix 43 (by decide +kernel) rfl, gT_ix 616 (by decide +kernel) rfl, by decide +kernel, by decide +kernel, by decide +kernel⟩
theorem cvX2_67 : CV RX2 67 YX2_nextPlace 0 := ⟨gT_ix 335 (by decide +kernel) rfl, gT_ix 273 (by decide +kernel) rfl, gT_ix 274 (by decide +kernel) rfl, gT_ix 41 (by decide +kernel) rfl, gT_ix 275 (by decide +kernel) rfl, by decide +kernel, by decide +kernel, by decide +kernel⟩
theorem cvX2_71 : CS RX2 71 YJ9_min_7cf53 2 := ⟨gT_ix 269 (by decide +kernel) rfl, gT_ix 270 (by decide +kernel) rfl, gT_ix 50 (by decide +kernel) rfl, gT_ix 271 (by decide +kernel) rfl, by decide +kernel, by decide +kernel, by decide +kernel⟩
theorem cvX2_77 : CS RX2 77 YJ6_bitCount_0f7a4 1 := ⟨gT_ix 243 (by decide +kernel) rfl, gT_ix 244 (by decide +kernel) rfl, gT_ix 52 (by decide +kernel) rfl, gT_ix 245 (by decide +kernel) rfl, by decide +kernel, by decide +kernel, by decide +kernel⟩
theorem cvX3_9 : CI RX3 9 YX1_init 0 := ⟨gT_ix 66 (by decide +kernel) rfl, gT_ix 67 (by decide +kernel) rfl, gT_ix 40 (by decide +kernel) rfl, gT_ix 68 (by decide +kernel) rfl, ⟨by decide +kernel, by decide +kernel, by decide +kernel⟩, rfl, rfl⟩
theorem cvX3_30 : CS RX3 30 YX3_requireStore 1 := ⟨gT_ix 414 (by decide +kernel) rfl, gT_ix 415 (by decide +kernel) rfl, gT_ix 39 (by decide +kernel) rfl, gT_ix 416 (by decide +kernel) rfl, by decide +kernel, by decide +kernel, by decide +kernel⟩
theorem cvX3_34 : CV RX3 34 YX1_blocks 1 := ⟨gT_ix 485 (by decide +kernel) rfl, gT_ix 312 (by decide +kernel) rfl, gT_ix 313 (by decide +kernel) rfl, gT_ix 40 (by decide +kernel) rfl, gT_ix 314 (by decide +kernel) rfl, by decide +kernel, by decide +kernel, by decide +kernel⟩
theorem cvX3_45 : CV RX3 45 YX3_save 0 := ⟨gT_ix 502 (by decide +kernel) rfl, gT_ix 504 (by decide +kernel) rfl, gT_ix 5 (by decide +kernel) rfl, gT_ix 39 (by decide +kernel) rfl, gT_ix 505 (by decide +kernel) rfl, by decide +kernel, by decide +kernel, by decide +kernel⟩
theorem cvX3_48 : CV RX3 48 YX1_ring 1 := ⟨gT_ix 506 (by decide +kernel) rfl, gT_ix 328 (by decide +kernel) rfl, gT_ix 329 (by decide +kernel) rfl, gT_ix 40 (by decide +kernel) rfl, gT_ix 330 (by decide +kernel) rfl, by decide +kernel, by decide +kernel, by decide +kernel⟩
theorem cvX3_52 : CS RX3 52 YX3_requireRange 3 := ⟨gT_ix 515 (by decide +kernel) rfl, gT_ix 516 (by decide +kernel) rfl, gT_ix 39 (by decide +kernel) rfl, gT_ix 517 (by decide +kernel) rfl, by decide +kernel, by decide +kernel, by decide +kernel⟩
theorem cvX3_56 : CV RX3 56 YX1_ringOften 3 := ⟨gT_ix 307 (by decide +kernel) rfl, gT_ix 308 (by decide +kernel) rfl, gT_ix 309 (by decide +kernel) rfl, gT_ix 40 (by decide +kernel) rfl, gT_ix 310 (by decide +kernel) rfl, by decide +kernel, by decide +kernel, by decide +kernel⟩
theorem cvX3_60 : CV RX3 60 YX1_isFull 0 := ⟨gT_ix 541 (by decide +kernel) rfl, gT_ix 316 (by decide +kernel) rfl, gT_ix 317 (by decide +kernel) rfl, gT_ix 40 (by decide +kernel) rfl, gT_ix 318 (by decide +kernel) rfl, by decide +kernel, by decide +kernel, by decide +kernel⟩
theorem cvX3_64 : CV RX3 64 YX1_healthiestStore 0 := ⟨gT_ix 231 (by decide +kernel) rfl, gT_ix 232 (by decide +kernel) rfl, gT_ix 233 (by decide +kernel) rfl, gT_ix 40 (by decide +kernel) rfl, gT_ix 234 (by decide +kernel) rfl, by decide +kernel, by decide +kernel, by decide +kernel⟩
theorem cvX3_68 : CV RX3 68 YX1_closeByHand 1 := ⟨gT_ix 549 (by decide +kernel) rfl, gT_ix 550 (by decide +kernel) rfl, gT_ix 551 (by decide +kernel) rfl, gT_ix 40 (by decide +kernel) rfl, gT_ix 552 (by decide +kernel) rfl, by decide +kernel, by decide +kernel, by decide +kernel⟩
theorem cvX3_71 : CS RX3 71 YX3_requireSetting 1 := ⟨gT_ix 560 (by decide +kernel) rfl, gT_ix 561 (by decide +kernel) rfl, gT_ix 39 (by decide +kernel) rfl, gT_ix 562 (by decide +kernel) rfl, by decide +kernel, by decide +kernel, by decide +kernel⟩
theorem cvX3_84 : CV RX3 84 YX1_letPass 1 := ⟨gT_ix 575 (by decide +kernel) rfl, gT_ix 576 (by decide +kernel) rfl, gT_ix 577 (by decide +kernel) rfl, gT_ix 40 (by decide +kernel) rfl, gT_ix 578 (by decide +kernel) rfl, by decide +kernel, by decide +kernel, by decide +kernel⟩
theorem cvX3_87 : CV RX3 87 YX0_isFull 0 := ⟨gT_ix 586 (by decide +kernel) rfl, gT_ix 587 (by decide +kernel) rfl, gT_ix 588 (by decide +kernel) rfl, gT_ix 43 (by decide +kernel) rfl, gT_ix 589 (by decide +kernel) rfl, by decide +kernel, by decide +kernel, by decide +kernel⟩
theorem cvX3_90 : CV RX3 90 YX0_add 1 := ⟨gT_ix 591 (by decide +kernel) rfl, gT_ix 592 (by decide +kernel) rfl, gT_ix 593 (by decide +kernel) rfl, gT_ix 43 (by decide +kernel) rfl, gT_ix 594 (by decide +kernel) rfl, by decide +kernel, by decide +kernel, by decide +kernel⟩
theorem cvX3_93 : CV RX3 93 YX0_empty 0 := ⟨gT_ix 212 (by decide +kernel) rfl, gT_ix 213 (by decide +kernel) rfl, gT_ix 214 (by decide +kernel) rfl, gT_ix 43 (by decide +kernel) rfl, gT_ix 215 (by decide +kernel) rfl, by decide +kernel, by decide +kernel, by decide +kernel⟩
theorem cvX3_96 : CV RX3 96 YX0_firstWrong 0 := ⟨gT_ix 220 (by decide +kernel) rfl, gT_ix 221 (by decide +kernel) rfl, gT_ix 222 (by decide +kernel) rfl, gT_ix 43 (by decide +kernel) rfl, gT_ix 223 (by decide +kernel) rfl, by decide +kernel, by decide +kernel, by decide +kernel⟩
theorem cvX3_99 : CV RX3 99 YX0_isComplete 0 := ⟨gT_ix 603 (by decide +kernel) rfl, gT_ix 604 (by decide +kernel) rfl, gT_ix 605 (by decide +kernel) rfl, gT_ix 43 (by decide +kernel) rfl, gT_ix 606 (by decide +kernel) rfl, by decide +kernel, by decide +kernel, by decide +kernel⟩
theorem cvX3_111 : CV RX3 111 YX2_takeRow 1 := ⟨gT_ix 609 (by decide +kernel) rfl, gT_ix 610 (by decide +kernel) rfl, gT_ix 611 (by decide +kernel) rfl, gT_ix 41 (by decide +kernel) rfl, gT_ix 612 (by decide +kernel) rfl, by decide +kernel, by decide +kernel, by decide +kernel⟩
theorem cvX3_126 : CV RX3 126 YX1_copyFrom 1 := ⟨gT_ix 298 (by decide +kernel) rfl, gT_ix 299 (by decide +kernel) rfl, gT_ix 300 (by decide +kernel) rfl, gT_ix 40 (by decide +kernel) rfl, gT_ix 301 (by decide +kernel) rfl, by decide +kernel, by decide +kernel, by decide +kernel⟩
theorem cvX3_130 : CV RX3 130 YX1_numberOf 2 := ⟨gT_ix 390 (by decide +kernel) rfl, gT_ix 262 (by decide +kernel) rfl, gT_ix 263 (by decide +kernel) rfl, gT_ix 40 (by decide +kernel) rfl, gT_ix 264 (by decide +kernel) rfl, by decide +kernel, by decide +kernel, by decide +kernel⟩
theorem cvX3_134 : CS RX3 134 YX3_requireNotNegative 1 := ⟨gT_ix 643 (by decide +kernel) rfl, gT_ix 644 (by decide +kernel) rfl, gT_ix 39 (by decide +kernel) rfl, gT_ix 645 (by decide +kernel) rfl, by decide +kernel, by decide +kernel, by decide +kernel⟩
theorem cvX3_150 : CV RX3 150 YX3_counted 1 := ⟨gT_ix 281 (by decide +kernel) rfl, gT_ix 283 (by decide +kernel) rfl, gT_ix 0 (by decide +kernel) rfl, gT_ix 39 (by decide +kernel) rfl, gT_ix 284 (by decide +kernel) rfl, by decide +kernel, by decide +kernel, by decide +kernel⟩
theorem cvX3_153 : CV RX3 153 YX3_foresee 3 := ⟨gT_ix 294 (by decide +kernel) rfl, gT_ix 296 (by decide +kernel) rfl, gT_ix 1 (by decide +kernel) rfl, gT_ix 39 (by decide +kernel) rfl, gT_ix 297 (by decide +kernel) rfl, by decide +kernel, by decide +kernel, by decide +kernel⟩
theorem cvX3_156 : CV RX3 156 YX3_foreseen 2 := ⟨gT_ix 395 (by decide +kernel) rfl, gT_ix 397 (by decide +kernel) rfl, gT_ix 3 (by decide +kernel) rfl, gT_ix 39 (by decide +kernel) rfl, gT_ix 398 (by decide +kernel) rfl, by decide +kernel, by decide +kernel, by decide +kernel⟩
theorem cvX3_159 : CV RX3 159 YX1_ticksTillFree 1 := ⟨gT_ix 391 (by decide +kernel) rfl, gT_ix 392 (by decide +kernel) rfl, gT_ix 393 (by decide +kernel) rfl, gT_ix 40 (by decide +kernel) rfl, gT_ix 394 (by decide +kernel) rfl, by decide +kernel, by decide +kernel, by decide +kernel⟩
theorem cvX3_162 : CV RX3 162 YX1_goodShare 0 := ⟨gT_ix 253 (by decide +kernel) rfl, gT_ix 254 (by decide +kernel) rfl, gT_ix 255 (by decide +kernel) rfl, gT_ix 40 (by decide +kernel) rfl, gT_ix 256 (by decide +kernel) rfl, by decide +kernel, by decide +kernel, by decide +kernel⟩
theorem cvX3_168 : CS RX3 168 YX3_mix 2 := ⟨gT_ix 290 (by decide +kernel) rfl, gT_ix 291 (by decide +kernel) rfl, gT_ix 39 (by decide +kernel) rfl, gT_ix 292 (by decide +kernel) rfl, by decide +kernel, by decide +kernel, by decide +kernel⟩
theorem cvX3_172 : CV RX3 172 YX3_mixStore 2 := ⟨gT_ix 386 (by decide +kernel) rfl, gT_ix 388 (by decide +kernel) rfl, gT_ix 2 (by decide +kernel) rfl, gT_ix 39 (by decide +kernel) rfl, gT_ix 389 (by decide +kernel) rfl, by decide +kernel, by decide +kernel, by decide +kernel⟩
theorem cvX3_176 : CS RX3 176 YX3_bitsOfShare 1 := ⟨gT_ix 399 (by decide +kernel) rfl, gT_ix 400 (by decide +kernel) rfl, gT_ix 39 (by decide +kernel) rfl, gT_ix 401 (by decide +kernel) rfl, by decide +kernel, by decide +kernel, by decide +kernel⟩
theorem cvX3_197 : CV RX3 197 YX1_sumOf 1 := ⟨gT_ix 285 (by decide +kernel) rfl, gT_ix 258 (by decide +kernel) rfl, gT_ix 259 (by decide +kernel) rfl, gT_ix 40 (by decide +kernel) rfl, gT_ix 260 (by decide +kernel) rfl, by decide +kernel, by decide +kernel, by decide +kernel⟩
theorem cvX3_203 : CV RX3 203 YX1_closedBreakers 0 := ⟨gT_ix 286 (by decide +kernel) rfl, gT_ix 287 (by decide +kernel) rfl, gT_ix 288 (by decide +kernel) rfl, gT_ix 40 (by decide +kernel) rfl, gT_ix 289 (by decide +kernel) rfl, by decide +kernel, by decide +kernel, by decide +kernel⟩
theorem cvX4_29 : CV RX4 29 YX4_lay 3 := ⟨gT_ix 688 (by decide +kernel) rfl, gT_ix 690 (by decide +kernel) rfl, gT_ix 6 (by decide +kernel) rfl, gT_ix 44 (by decide +kernel) rfl, gT_ix 691 (by decide +kernel) rfl, by decide +kernel, by decide +kernel, by decide +kernel⟩
theorem cvX4_33 : CS RX4 33 YX4_in 3 := ⟨gT_ix 740 (by decide +kernel) rfl, gT_ix 741 (by decide +kernel) rfl, gT_ix 44 (by decide +kernel) rfl, gT_ix 742 (by decide +kernel) rfl, by decide +kernel, by decide +kernel, by decide +kernel⟩
theorem cvX4_40 : CV RX4 40 YX4_of 2 := ⟨gT_ix 751 (by decide +kernel) rfl, gT_ix 753 (by decide +kernel) rfl, gT_ix 9 (by decide +kernel) rfl, gT_ix 44 (by decide +kernel) rfl, gT_ix 754 (by decide +kernel) rfl, by decide +kernel, by decide +kernel, by decide +kernel⟩
theorem cvX4_44 : CV RX4 44 YX4_inWindow 1 := ⟨gT_ix 788 (by decide +kernel) rfl, gT_ix 790 (by decide +kernel) rfl, gT_ix 18 (by decide +kernel) rfl, gT_ix 44 (by decide +kernel) rfl, gT_ix 791 (by decide +kernel) rfl, by decide +kernel, by decide +kernel, by decide +kernel⟩
theorem cvX4_48 : CV RX4 48 YX4_adds 2 := ⟨gT_ix 771 (by decide +kernel) rfl, gT_ix 773 (by decide +kernel) rfl, gT_ix 14 (by decide +kernel) rfl, gT_ix 44 (by decide +kernel) rfl, gT_ix 774 (by decide +kernel) rfl, by decide +kernel, by decide +kernel, by decide +kernel⟩
theorem cvX4_52 : CV RX4 52 YX4_cutsOff 2 := ⟨gT_ix 779 (by decide +kernel) rfl, gT_ix 781 (by decide +kernel) rfl, gT_ix 16 (by decide +kernel) rfl, gT_ix 44 (by decide +kernel) rfl, gT_ix 782 (by decide +kernel) rfl, by decide +kernel, by decide +kernel, by decide +kernel⟩
theorem cvX4_55 : CV RX4 55 YX4_closes 1 := ⟨gT_ix 783 (by decide +kernel) rfl, gT_ix 785 (by decide +kernel) rfl, gT_ix 17 (by decide +kernel) rfl, gT_ix 44 (by decide +kernel) rfl, gT_ix 786 (by decide +kernel) rfl, by decide +kernel, by decide +kernel, by decide +kernel⟩
theorem cvX4_60 : CV RX4 60 YX4_badInWindow 1 := ⟨gT_ix 792 (by decide +kernel) rfl, gT_ix 794 (by decide +kernel) rfl, gT_ix 19 (by decide +kernel) rfl, gT_ix 44 (by decide +kernel) rfl, gT_ix 795 (by decide +kernel) rfl, by decide +kernel, by decide +kernel, by decide +kernel⟩
theorem cvX4_63 : CV RX4 63 YX4_callOf 2 := ⟨gT_ix 759 (by decide +kernel) rfl, gT_ix 761 (by decide +kernel) rfl, gT_ix 11 (by decide +kernel) rfl, gT_ix 44 (by decide +kernel) rfl, gT_ix 762 (by decide +kernel) rfl, by decide +kernel, by decide +kernel, by decide +kernel⟩
theorem cvX4_66 : CV RX4 66 YX4_hasTrial 1 := ⟨gT_ix 755 (by decide +kernel) rfl, gT_ix 757 (by decide +kernel) rfl, gT_ix 10 (by decide +kernel) rfl, gT_ix 44 (by decide +kernel) rfl, gT_ix 758 (by decide +kernel) rfl, by decide +kernel, by decide +kernel, by decide +kernel⟩
theorem cvX4_70 : CV RX4 70 YX4_isRefused 1 := ⟨gT_ix 747 (by decide +kernel) rfl, gT_ix 749 (by decide +kernel) rfl, gT_ix 8 (by decide +kernel) rfl, gT_ix 44 (by decide +kernel) rfl, gT_ix 750 (by decide +kernel) rfl, by decide +kernel, by decide +kernel, by decide +kernel⟩
theorem cvX4_73 : CV RX4 73 YX4_comesOut 4 := ⟨gT_ix 775 (by decide +kernel) rfl, gT_ix 777 (by decide +kernel) rfl, gT_ix 15 (by decide +kernel) rfl, gT_ix 44 (by decide +kernel) rfl, gT_ix 778 (by decide +kernel) rfl, by decide +kernel, by decide +kernel, by decide +kernel⟩
theorem cvX4_77 : CV RX4 77 YX4_drops 1 := ⟨gT_ix 812 (by decide +kernel) rfl, gT_ix 814 (by decide +kernel) rfl, gT_ix 23 (by decide +kernel) rfl, gT_ix 44 (by decide +kernel) rfl, gT_ix 815 (by decide +kernel) rfl, by decide +kernel, by decide +kernel, by decide +kernel⟩
theorem cvX4_80 : CV RX4 80 YX4_tick 0 := ⟨gT_ix 808 (by decide +kernel) rfl, gT_ix 810 (by decide +kernel) rfl, gT_ix 22 (by decide +kernel) rfl, gT_ix 44 (by decide +kernel) rfl, gT_ix 811 (by decide +kernel) rfl, by decide +kernel, by decide +kernel, by decide +kernel⟩
theorem cvX4_84 : CV RX4 84 YX4_calls 1 := ⟨gT_ix 767 (by decide +kernel) rfl, gT_ix 769 (by decide +kernel) rfl, gT_ix 13 (by decide +kernel) rfl, gT_ix 44 (by decide +kernel) rfl, gT_ix 770 (by decide +kernel) rfl, by decide +kernel, by decide +kernel, by decide +kernel⟩
theorem cvX4_87 : CV RX4 87 YX4_ticks 1 := ⟨gT_ix 804 (by decide +kernel) rfl, gT_ix 806 (by decide +kernel) rfl, gT_ix 21 (by decide +kernel) rfl, gT_ix 44 (by decide +kernel) rfl, gT_ix 807 (by decide +kernel) rfl, by decide +kernel, by decide +kernel, by decide +kernel⟩
theorem cvX4_90 : CS RX4 90 YX4_isStore 1 := ⟨gT_ix 737 (by decide +kernel) rfl, gT_ix 738 (by decide +kernel) rfl, gT_ix 44 (by decide +kernel) rfl, gT_ix 739 (by decide +kernel) rfl, by decide +kernel, by decide +kernel, by decide +kernel⟩
theorem cvX4_93 : CV RX4 93 YX4_fails 1 := ⟨gT_ix 743 (by decide +kernel) rfl, gT_ix 745 (by decide +kernel) rfl, gT_ix 7 (by decide +kernel) rfl, gT_ix 44 (by decide +kernel) rfl, gT_ix 746 (by decide +kernel) rfl, by decide +kernel, by decide +kernel, by decide +kernel⟩
theorem cvX4_96 : CV RX4 96 YX4_saves 0 := ⟨gT_ix 763 (by decide +kernel) rfl, gT_ix 765 (by decide +kernel) rfl, gT_ix 12 (by decide +kernel) rfl, gT_ix 44 (by decide +kernel) rfl, gT_ix 766 (by decide +kernel) rfl, by decide +kernel, by decide +kernel, by decide +kernel⟩
theorem cvX4_99 : CV RX4 99 YX4_callsOften 3 := ⟨gT_ix 800 (by decide +kernel) rfl, gT_ix 802 (by decide +kernel) rfl, gT_ix 20 (by decide +kernel) rfl, gT_ix 44 (by decide +kernel) rfl, gT_ix 803 (by decide +kernel) rfl, by decide +kernel, by decide +kernel, by decide +kernel⟩
theorem cvX4_103 : CV RX4 103 YX4_onWayOf 1 := ⟨gT_ix 824 (by decide +kernel) rfl, gT_ix 826 (by decide +kernel) rfl, gT_ix 25 (by decide +kernel) rfl, gT_ix 44 (by decide +kernel) rfl, gT_ix 827 (by decide +kernel) rfl, by decide +kernel, by decide +kernel, by decide +kernel⟩
theorem cvX4_106 : CV RX4 106 YX4_bestStore 0 := ⟨gT_ix 820 (by decide +kernel) rfl, gT_ix 822 (by decide +kernel) rfl, gT_ix 24 (by decide +kernel) rfl, gT_ix 44 (by decide +kernel) rfl, gT_ix 823 (by decide +kernel) rfl, by decide +kernel, by decide +kernel, by decide +kernel⟩
theorem cvX4_109 : CS RX4 109 YX4_isSetting 2 := ⟨gT_ix 836 (by decide +kernel) rfl, gT_ix 837 (by decide +kernel) rfl, gT_ix 44 (by decide +kernel) rfl, gT_ix 838 (by decide +kernel) rfl, by decide +kernel, by decide +kernel, by decide +kernel⟩
theorem cvX4_119 : CV RX4 119 YX4_sign 0 := ⟨gT_ix 863 (by decide +kernel) rfl, gT_ix 865 (by decide +kernel) rfl, gT_ix 28 (by decide +kernel) rfl, gT_ix 44 (by decide +kernel) rfl, gT_ix 866 (by decide +kernel) rfl, by decide +kernel, by decide +kernel, by decide +kernel⟩
theorem cvX4_129 : CV RX4 129 YX4_readsNumber 0 := ⟨gT_ix 859 (by decide +kernel) rfl, gT_ix 861 (by decide +kernel) rfl, gT_ix 27 (by decide +kernel) rfl, gT_ix 44 (by decide +kernel) rfl, gT_ix 862 (by decide +kernel) rfl, by decide +kernel, by decide +kernel, by decide +kernel⟩
theorem cvX4_132 : CV RX4 132 YX4_readsAll 0 := ⟨gT_ix 855 (by decide +kernel) rfl, gT_ix 857 (by decide +kernel) rfl, gT_ix 26 (by decide +kernel) rfl, gT_ix 44 (by decide +kernel) rfl, gT_ix 858 (by decide +kernel) rfl, by decide +kernel, by decide +kernel, by decide +kernel⟩
theorem cvX4_135 : CV RX4 135 YX4_tellsStore 2 := ⟨gT_ix 879 (by decide +kernel) rfl, gT_ix 881 (by decide +kernel) rfl, gT_ix 29 (by decide +kernel) rfl, gT_ix 44 (by decide +kernel) rfl, gT_ix 882 (by decide +kernel) rfl, by decide +kernel, by decide +kernel, by decide +kernel⟩
theorem cvX4_138 : CV RX4 138 YX4_overStores 1 := ⟨gT_ix 899 (by decide +kernel) rfl, gT_ix 901 (by decide +kernel) rfl, gT_ix 31 (by decide +kernel) rfl, gT_ix 44 (by decide +kernel) rfl, gT_ix 902 (by decide +kernel) rfl, by decide +kernel, by decide +kernel, by decide +kernel⟩
theorem cvX4_141 : CV RX4 141 YX4_counts 1 := ⟨gT_ix 895 (by decide +kernel) rfl, gT_ix 897 (by decide +kernel) rfl, gT_ix 30 (by decide +kernel) rfl, gT_ix 44 (by decide +kernel) rfl, gT_ix 898 (by decide +kernel) rfl, by decide +kernel, by decide +kernel, by decide +kernel⟩
theorem cvX4_144 : CV RX4 144 YX4_putAside 0 := ⟨gT_ix 915 (by decide +kernel) rfl, gT_ix 917 (by decide +kernel) rfl, gT_ix 33 (by decide +kernel) rfl, gT_ix 44 (by decide +kernel) rfl, gT_ix 918 (by decide +kernel) rfl, by decide +kernel, by decide +kernel, by decide +kernel⟩
theorem cvX4_147 : CV RX4 147 YX4_takeBack 0 := ⟨gT_ix 919 (by decide +kernel) rfl, gT_ix 921 (by decide +kernel) rfl, gT_ix 34 (by decide +kernel) rfl, gT_ix 44 (by decide +kernel) rfl, gT_ix 922 (by decide +kernel) rfl, by decide +kernel, by decide +kernel, by decide +kernel⟩
theorem cvX4_150 : CV RX4 150 YX4_would 4 := ⟨gT_ix 911 (by decide +kernel) rfl, gT_ix 913 (by decide +kernel) rfl, gT_ix 32 (by decide +kernel) rfl, gT_ix 44 (by decide +kernel) rfl, gT_ix 914 (by decide +kernel) rfl, by decide +kernel, by decide +kernel, by decide +kernel⟩
theorem cvX4_154 : CV RX4 154 YX4_untilFree 1 := ⟨gT_ix 927 (by decide +kernel) rfl, gT_ix 929 (by decide +kernel) rfl, gT_ix 35 (by decide +kernel) rfl, gT_ix 44 (by decide +kernel) rfl, gT_ix 930 (by decide +kernel) rfl, by decide +kernel, by decide +kernel, by decide +kernel⟩
theorem cvX4_157 : CV RX4 157 YX4_share 0 := ⟨gT_ix 939 (by decide +kernel) rfl, gT_ix 941 (by decide +kernel) rfl, gT_ix 36 (by decide +kernel) rfl, gT_ix 44 (by decide +kernel) rfl, gT_ix 942 (by decide +kernel) rfl, by decide +kernel, by decide +kernel, by decide +kernel⟩
theorem cvX4_169 : CV RX4 169 YX4_hashes 1 := ⟨gT_ix 948 (by decide +kernel) rfl, gT_ix 950 (by decide +kernel) rfl, gT_ix 37 (by decide +kernel) rfl, gT_ix 44 (by decide +kernel) rfl, gT_ix 951 (by decide +kernel) rfl, by decide +kernel, by decide +kernel, by decide +kernel⟩
theorem cvX4_173 : CS RX4 173 YJxe99ae_doubleToLongBits_ccdee 1 := ⟨gT_ix 953 (by decide +kernel) rfl, gT_ix 954 (by decide +kernel) rfl, gT_ix 55 (by decide +kernel) rfl, gT_ix 955 (by decide +kernel) rfl, by decide +kernel, by decide +kernel, by decide +kernel⟩
theorem cvJxe99ae_122 : CS RJxe99ae 122 YJxe99ae_isNaN_b9ae7 1 := ⟨gT_ix 956 (by decide +kernel) rfl, gT_ix 957 (by decide +kernel) rfl, gT_ix 55 (by decide +kernel) rfl, gT_ix 958 (by decide +kernel) rfl, by decide +kernel, by decide +kernel, by decide +kernel⟩
theorem cvL_7 : CV RL 7 YX3_call 1 := ⟨gT_ix 410 (by decide +kernel) rfl, gT_ix 411 (by decide +kernel) rfl, gT_ix 412 (by decide +kernel) rfl, gT_ix 39 (by decide +kernel) rfl, gT_ix 413 (by decide +kernel) rfl, by decide +kernel, by decide +kernel, by decide +kernel⟩
theorem cvL_17 : CV RL 17 YX3_callOften 3 := ⟨gT_ix 511 (by decide +kernel) rfl, gT_ix 512 (by decide +kernel) rfl, gT_ix 513 (by decide +kernel) rfl, gT_ix 39 (by decide +kernel) rfl, gT_ix 514 (by decide +kernel) rfl, by decide +kernel, by decide +kernel, by decide +kernel⟩
theorem cvL_23 : CV RL 23 YX3_callHealthiest 0 := ⟨gT_ix 537 (by decide +kernel) rfl, gT_ix 538 (by decide +kernel) rfl, gT_ix 539 (by decide +kernel) rfl, gT_ix 39 (by decide +kernel) rfl, gT_ix 540 (by decide +kernel) rfl, by decide +kernel, by decide +kernel, by decide +kernel⟩
theorem cvL_27 : CV RL 27 YX3_close 1 := ⟨gT_ix 545 (by decide +kernel) rfl, gT_ix 546 (by decide +kernel) rfl, gT_ix 547 (by decide +kernel) rfl, gT_ix 39 (by decide +kernel) rfl, gT_ix 548 (by decide +kernel) rfl, by decide +kernel, by decide +kernel, by decide +kernel⟩
theorem cvL_30 : CV RL 30 YX3_set 2 := ⟨gT_ix 556 (by decide +kernel) rfl, gT_ix 557 (by decide +kernel) rfl, gT_ix 558 (by decide +kernel) rfl, gT_ix 39 (by decide +kernel) rfl, gT_ix 559 (by decide +kernel) rfl, by decide +kernel, by decide +kernel, by decide +kernel⟩
theorem cvL_34 : CV RL 34 YX3_pass 1 := ⟨gT_ix 571 (by decide +kernel) rfl, gT_ix 572 (by decide +kernel) rfl, gT_ix 573 (by decide +kernel) rfl, gT_ix 39 (by decide +kernel) rfl, gT_ix 574 (by decide +kernel) rfl, by decide +kernel, by decide +kernel, by decide +kernel⟩
theorem cvL_37 : CV RL 37 YX3_append 1 := ⟨gT_ix 582 (by decide +kernel) rfl, gT_ix 583 (by decide +kernel) rfl, gT_ix 584 (by decide +kernel) rfl, gT_ix 39 (by decide +kernel) rfl, gT_ix 585 (by decide +kernel) rfl, by decide +kernel, by decide +kernel, by decide +kernel⟩
theorem cvL_40 : CV RL 40 YX3_delays 1 := ⟨gT_ix 599 (by decide +kernel) rfl, gT_ix 600 (by decide +kernel) rfl, gT_ix 601 (by decide +kernel) rfl, gT_ix 39 (by decide +kernel) rfl, gT_ix 602 (by decide +kernel) rfl, by decide +kernel, by decide +kernel, by decide +kernel⟩
theorem cvL_43 : CV RL 43 YX3_undo 0 := ⟨gT_ix 624 (by decide +kernel) rfl, gT_ix 625 (by decide +kernel) rfl, gT_ix 626 (by decide +kernel) rfl, gT_ix 39 (by decide +kernel) rfl, gT_ix 627 (by decide +kernel) rfl, by decide +kernel, by decide +kernel, by decide +kernel⟩
theorem cvL_46 : CV RL 46 YX3_store 2 := ⟨gT_ix 632 (by decide +kernel) rfl, gT_ix 633 (by decide +kernel) rfl, gT_ix 634 (by decide +kernel) rfl, gT_ix 39 (by decide +kernel) rfl, gT_ix 635 (by decide +kernel) rfl, by decide +kernel, by decide +kernel, by decide +kernel⟩
theorem cvL_49 : CV RL 49 YX3_delay 2 := ⟨gT_ix 639 (by decide +kernel) rfl, gT_ix 640 (by decide +kernel) rfl, gT_ix 641 (by decide +kernel) rfl, gT_ix 39 (by decide +kernel) rfl, gT_ix 642 (by decide +kernel) rfl, by decide +kernel, by decide +kernel, by decide +kernel⟩
theorem cvL_52 : CV RL 52 YX3_onWay 2 := ⟨gT_ix 650 (by decide +kernel) rfl, gT_ix 651 (by decide +kernel) rfl, gT_ix 652 (by decide +kernel) rfl, gT_ix 39 (by decide +kernel) rfl, gT_ix 653 (by decide +kernel) rfl, by decide +kernel, by decide +kernel, by decide +kernel⟩
theorem cvL_55 : CV RL 55 YX3_count 1 := ⟨gT_ix 657 (by decide +kernel) rfl, gT_ix 658 (by decide +kernel) rfl, gT_ix 659 (by decide +kernel) rfl, gT_ix 39 (by decide +kernel) rfl, gT_ix 660 (by decide +kernel) rfl, by decide +kernel, by decide +kernel, by decide +kernel⟩
theorem cvL_58 : CV RL 58 YX3_setting 1 := ⟨gT_ix 664 (by decide +kernel) rfl, gT_ix 665 (by decide +kernel) rfl, gT_ix 666 (by decide +kernel) rfl, gT_ix 39 (by decide +kernel) rfl, gT_ix 667 (by decide +kernel) rfl, by decide +kernel, by decide +kernel, by decide +kernel⟩
theorem cvL_61 : CV RL 61 YX3_ifCalled 4 := ⟨gT_ix 671 (by decide +kernel) rfl, gT_ix 672 (by decide +kernel) rfl, gT_ix 673 (by decide +kernel) rfl, gT_ix 39 (by decide +kernel) rfl, gT_ix 674 (by decide +kernel) rfl, by decide +kernel, by decide +kernel, by decide +kernel⟩
theorem cvL_65 : CV RL 65 YX3_freeIn 1 := ⟨gT_ix 678 (by decide +kernel) rfl, gT_ix 679 (by decide +kernel) rfl, gT_ix 680 (by decide +kernel) rfl, gT_ix 39 (by decide +kernel) rfl, gT_ix 681 (by decide +kernel) rfl, by decide +kernel, by decide +kernel, by decide +kernel⟩
theorem cvL_68 : CI RL 68 YX3_init 0 := ⟨gT_ix 58 (by decide +kernel) rfl, gT_ix 59 (by decide +kernel) rfl, gT_ix 39 (by decide +kernel) rfl, gT_ix 60 (by decide +kernel) rfl, ⟨by decide +kernel, by decide +kernel, by decide +kernel⟩, rfl, rfl⟩
theorem cvL_71 : CI RL 71 YX4_init 0 := ⟨gT_ix 684 (by decide +kernel) rfl, gT_ix 685 (by decide +kernel) rfl, gT_ix 44 (by decide +kernel) rfl, gT_ix 686 (by decide +kernel) rfl, ⟨by decide +kernel, by decide +kernel, by decide +kernel⟩, rfl, rfl⟩
theorem cvL_77 : CV RL 77 YX4_call 1 := ⟨gT_ix 733 (by decide +kernel) rfl, gT_ix 734 (by decide +kernel) rfl, gT_ix 735 (by decide +kernel) rfl, gT_ix 44 (by decide +kernel) rfl, gT_ix 736 (by decide +kernel) rfl, by decide +kernel, by decide +kernel, by decide +kernel⟩
theorem cvL_78 : CV RL 78 YX4_thrown 0 := ⟨gT_ix 729 (by decide +kernel) rfl, gT_ix 730 (by decide +kernel) rfl, gT_ix 731 (by decide +kernel) rfl, gT_ix 44 (by decide +kernel) rfl, gT_ix 732 (by decide +kernel) rfl, by decide +kernel, by decide +kernel, by decide +kernel⟩
theorem cvL_84 : CV RL 84 YX4_callOften 3 := ⟨gT_ix 796 (by decide +kernel) rfl, gT_ix 797 (by decide +kernel) rfl, gT_ix 798 (by decide +kernel) rfl, gT_ix 44 (by decide +kernel) rfl, gT_ix 799 (by decide +kernel) rfl, by decide +kernel, by decide +kernel, by decide +kernel⟩
theorem cvL_88 : CV RL 88 YX4_callHealthiest 0 := ⟨gT_ix 816 (by decide +kernel) rfl, gT_ix 817 (by decide +kernel) rfl, gT_ix 818 (by decide +kernel) rfl, gT_ix 44 (by decide +kernel) rfl, gT_ix 819 (by decide +kernel) rfl, by decide +kernel, by decide +kernel, by decide +kernel⟩
theorem cvL_91 : CV RL 91 YX4_close 1 := ⟨gT_ix 828 (by decide +kernel) rfl, gT_ix 829 (by decide +kernel) rfl, gT_ix 830 (by decide +kernel) rfl, gT_ix 44 (by decide +kernel) rfl, gT_ix 831 (by decide +kernel) rfl, by decide +kernel, by decide +kernel, by decide +kernel⟩
theorem cvL_95 : CV RL 95 YX4_set 2 := ⟨gT_ix 832 (by decide +kernel) rfl, gT_ix 833 (by decide +kernel) rfl, gT_ix 834 (by decide +kernel) rfl, gT_ix 44 (by decide +kernel) rfl, gT_ix 835 (by decide +kernel) rfl, by decide +kernel, by decide +kernel, by decide +kernel⟩
theorem cvL_98 : CV RL 98 YX4_pass 1 := ⟨gT_ix 839 (by decide +kernel) rfl, gT_ix 840 (by decide +kernel) rfl, gT_ix 841 (by decide +kernel) rfl, gT_ix 44 (by decide +kernel) rfl, gT_ix 842 (by decide +kernel) rfl, by decide +kernel, by decide +kernel, by decide +kernel⟩
theorem cvL_101 : CV RL 101 YX4_append 1 := ⟨gT_ix 843 (by decide +kernel) rfl, gT_ix 844 (by decide +kernel) rfl, gT_ix 845 (by decide +kernel) rfl, gT_ix 44 (by decide +kernel) rfl, gT_ix 846 (by decide +kernel) rfl, by decide +kernel, by decide +kernel, by decide +kernel⟩
theorem cvL_102 : CV RL 102 YX3_clearBuffer 0 := ⟨gT_ix 208 (by decide +kernel) rfl, gT_ix 209 (by decide +kernel) rfl, gT_ix 210 (by decide +kernel) rfl, gT_ix 39 (by decide +kernel) rfl, gT_ix 211 (by decide +kernel) rfl, by decide +kernel, by decide +kernel, by decide +kernel⟩
theorem cvL_105 : CV RL 105 YX4_clearBuffer 0 := ⟨gT_ix 847 (by decide +kernel) rfl, gT_ix 848 (by decide +kernel) rfl, gT_ix 849 (by decide +kernel) rfl, gT_ix 44 (by decide +kernel) rfl, gT_ix 850 (by decide +kernel) rfl, by decide +kernel, by decide +kernel, by decide +kernel⟩
theorem cvL_106 : CV RL 106 YX3_firstError 0 := ⟨gT_ix 216 (by decide +kernel) rfl, gT_ix 217 (by decide +kernel) rfl, gT_ix 218 (by decide +kernel) rfl, gT_ix 39 (by decide +kernel) rfl, gT_ix 219 (by decide +kernel) rfl, by decide +kernel, by decide +kernel, by decide +kernel⟩
theorem cvL_109 : CV RL 109 YX4_firstError 0 := ⟨gT_ix 851 (by decide +kernel) rfl, gT_ix 852 (by decide +kernel) rfl, gT_ix 853 (by decide +kernel) rfl, gT_ix 44 (by decide +kernel) rfl, gT_ix 854 (by decide +kernel) rfl, by decide +kernel, by decide +kernel, by decide +kernel⟩
theorem cvL_112 : CV RL 112 YX4_delays 1 := ⟨gT_ix 867 (by decide +kernel) rfl, gT_ix 868 (by decide +kernel) rfl, gT_ix 869 (by decide +kernel) rfl, gT_ix 44 (by decide +kernel) rfl, gT_ix 870 (by decide +kernel) rfl, by decide +kernel, by decide +kernel, by decide +kernel⟩
theorem cvL_115 : CV RL 115 YX4_undo 0 := ⟨gT_ix 871 (by decide +kernel) rfl, gT_ix 872 (by decide +kernel) rfl, gT_ix 873 (by decide +kernel) rfl, gT_ix 44 (by decide +kernel) rfl, gT_ix 874 (by decide +kernel) rfl, by decide +kernel, by decide +kernel, by decide +kernel⟩
theorem cvL_118 : CV RL 118 YX4_store 2 := ⟨gT_ix 875 (by decide +kernel) rfl, gT_ix 876 (by decide +kernel) rfl, gT_ix 877 (by decide +kernel) rfl, gT_ix 44 (by decide +kernel) rfl, gT_ix 878 (by decide +kernel) rfl, by decide +kernel, by decide +kernel, by decide +kernel⟩
theorem cvL_121 : CV RL 121 YX4_delay 2 := ⟨gT_ix 883 (by decide +kernel) rfl, gT_ix 884 (by decide +kernel) rfl, gT_ix 885 (by decide +kernel) rfl, gT_ix 44 (by decide +kernel) rfl, gT_ix 886 (by decide +kernel) rfl, by decide +kernel, by decide +kernel, by decide +kernel⟩
theorem cvL_124 : CV RL 124 YX4_onWay 2 := ⟨gT_ix 887 (by decide +kernel) rfl, gT_ix 888 (by decide +kernel) rfl, gT_ix 889 (by decide +kernel) rfl, gT_ix 44 (by decide +kernel) rfl, gT_ix 890 (by decide +kernel) rfl, by decide +kernel, by decide +kernel, by decide +kernel⟩
theorem cvL_127 : CV RL 127 YX4_count 1 := ⟨gT_ix 891 (by decide +kernel) rfl, gT_ix 892 (by decide +kernel) rfl, gT_ix 893 (by decide +kernel) rfl, gT_ix 44 (by decide +kernel) rfl, gT_ix 894 (by decide +kernel) rfl, by decide +kernel, by decide +kernel, by decide +kernel⟩
theorem cvL_130 : CV RL 130 YX4_setting 1 := ⟨gT_ix 903 (by decide +kernel) rfl, gT_ix 904 (by decide +kernel) rfl, gT_ix 905 (by decide +kernel) rfl, gT_ix 44 (by decide +kernel) rfl, gT_ix 906 (by decide +kernel) rfl, by decide +kernel, by decide +kernel, by decide +kernel⟩
theorem cvL_134 : CV RL 134 YX4_ifCalled 4 := ⟨gT_ix 907 (by decide +kernel) rfl, gT_ix 908 (by decide +kernel) rfl, gT_ix 909 (by decide +kernel) rfl, gT_ix 44 (by decide +kernel) rfl, gT_ix 910 (by decide +kernel) rfl, by decide +kernel, by decide +kernel, by decide +kernel⟩
theorem cvL_137 : CV RL 137 YX4_freeIn 1 := ⟨gT_ix 923 (by decide +kernel) rfl, gT_ix 924 (by decide +kernel) rfl, gT_ix 925 (by decide +kernel) rfl, gT_ix 44 (by decide +kernel) rfl, gT_ix 926 (by decide +kernel) rfl, by decide +kernel, by decide +kernel, by decide +kernel⟩
theorem cvL_138 : CV RL 138 YX3_healthiest 0 := ⟨gT_ix 227 (by decide +kernel) rfl, gT_ix 228 (by decide +kernel) rfl, gT_ix 229 (by decide +kernel) rfl, gT_ix 39 (by decide +kernel) rfl, gT_ix 230 (by decide +kernel) rfl, by decide +kernel, by decide +kernel, by decide +kernel⟩
theorem cvL_141 : CV RL 141 YX4_healthiest 0 := ⟨gT_ix 931 (by decide +kernel) rfl, gT_ix 932 (by decide +kernel) rfl, gT_ix 933 (by decide +kernel) rfl, gT_ix 44 (by decide +kernel) rfl, gT_ix 934 (by decide +kernel) rfl, by decide +kernel, by decide +kernel, by decide +kernel⟩
theorem cvL_142 : CV RL 142 YX3_health 0 := ⟨gT_ix 249 (by decide +kernel) rfl, gT_ix 250 (by decide +kernel) rfl, gT_ix 251 (by decide +kernel) rfl, gT_ix 39 (by decide +kernel) rfl, gT_ix 252 (by decide +kernel) rfl, by decide +kernel, by decide +kernel, by decide +kernel⟩
theorem cvL_146 : CV RL 146 YX4_health 0 := ⟨gT_ix 935 (by decide +kernel) rfl, gT_ix 936 (by decide +kernel) rfl, gT_ix 937 (by decide +kernel) rfl, gT_ix 44 (by decide +kernel) rfl, gT_ix 938 (by decide +kernel) rfl, by decide +kernel, by decide +kernel, by decide +kernel⟩
theorem cvL_147 : CV RL 147 YX3_digest 0 := ⟨gT_ix 276 (by decide +kernel) rfl, gT_ix 277 (by decide +kernel) rfl, gT_ix 278 (by decide +kernel) rfl, gT_ix 39 (by decide +kernel) rfl, gT_ix 279 (by decide +kernel) rfl, by decide +kernel, by decide +kernel, by decide +kernel⟩
theorem cvL_151 : CV RL 151 YX4_digest 0 := ⟨gT_ix 943 (by decide +kernel) rfl, gT_ix 944 (by decide +kernel) rfl, gT_ix 945 (by decide +kernel) rfl, gT_ix 44 (by decide +kernel) rfl, gT_ix 946 (by decide +kernel) rfl, by decide +kernel, by decide +kernel, by decide +kernel⟩
