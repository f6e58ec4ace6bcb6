abbrev miX0_init : MI := (yX0_init, cX0_init, 1, none)
abbrev miX1_init : MI := (yX1_init, cX1_init, 2, none)
abbrev miX1_read : MI := (yX1_read, cX1_read, 3, (some .int))
abbrev miX1_readLine : MI := (yX1_readLine, cX1_readLine, 6, none)
abbrev miX1_keepLine : MI := (yX1_keepLine, cX1_keepLine, 5, none)
abbrev miX1_whatOf : MI := (yX1_whatOf, cX1_whatOf, 1, (some .int))
abbrev miX2_init : MI := (yX2_init, cX2_init, 1, none)
abbrev miX2_add : MI := (yX2_add, cX2_add, 2, none)
abbrev miX2_value : MI := (yX2_value, cX2_value, 10, (some .int))
abbrev miX3_init : MI := (yX3_init, cX3_init, 2, none)
abbrev miX3_readWhole : MI := (yX3_readWhole, cX3_readWhole, 5, none)
abbrev miX3_readTest : MI := (yX3_readTest, cX3_readTest, 4, none)
abbrev miX3_readSum : MI := (yX3_readSum, cX3_readSum, 5, none)
abbrev miX3_readProduct : MI := (yX3_readProduct, cX3_readProduct, 4, none)
abbrev miX3_readPart : MI := (yX3_readPart, cX3_readPart, 6, none)
abbrev miX3_factOf : MI := (yX3_factOf, cX3_factOf, 1, (some .int))
abbrev miX4_init : MI := (yX4_init, cX4_init, 2, none)
abbrev miX4_clear : MI := (yX4_clear, cX4_clear, 1, none)
abbrev miX4_coachOf : MI := (yX4_coachOf, cX4_coachOf, 4, (some .int))
abbrev miX4_thingOf : MI := (yX4_thingOf, cX4_thingOf, 4, (some .int))
abbrev miX4_buyerOf : MI := (yX4_buyerOf, cX4_buyerOf, 4, (some .int))
abbrev miX4_farOf : MI := (yX4_farOf, cX4_farOf, 4, (some .int))
abbrev miX4_wayOf : MI := (yX4_wayOf, cX4_wayOf, 3, (some .int))
abbrev miX4_goesAt : MI := (yX4_goesAt, cX4_goesAt, 3, (some .int))
abbrev miX4_secsFor : MI := (yX4_secsFor, cX4_secsFor, 4, (some .int))
abbrev miX4_priceFor : MI := (yX4_priceFor, cX4_priceFor, 4, (some .int))
abbrev miX5_init : MI := (yX5_init, cX5_init, 2, none)
abbrev miX5_read : MI := (yX5_read, cX5_read, 3, (some .int))
abbrev miX5_readLine : MI := (yX5_readLine, cX5_readLine, 3, none)
abbrev miX5_readOnce : MI := (yX5_readOnce, cX5_readOnce, 3, none)
abbrev miX5_readLate : MI := (yX5_readLate, cX5_readLate, 4, none)
abbrev miX5_readCoach : MI := (yX5_readCoach, cX5_readCoach, 2, none)
abbrev miX5_readThing : MI := (yX5_readThing, cX5_readThing, 3, none)
abbrev miX5_readBuyer : MI := (yX5_readBuyer, cX5_readBuyer, 3, none)
abbrev miX5_readWants : MI := (yX5_readWants, cX5_readWants, 5, none)
abbrev miX5_takeNewName : MI := (yX5_takeNewName, cX5_takeNewName, 4, (some .long))
abbrev miX6_init : MI := (yX6_init, cX6_init, 3, none)
abbrev miX6_layOut : MI := (yX6_layOut, cX6_layOut, 3, none)
abbrev miX6_play : MI := (yX6_play, cX6_play, 3, none)
abbrev miX6_isOut : MI := (yX6_isOut, cX6_isOut, 2, (some .boolean))
abbrev miX6_makeReady : MI := (yX6_makeReady, cX6_makeReady, 3, none)
abbrev miX6_nextSecond : MI := (yX6_nextSecond, cX6_nextSecond, 4, (some .int))
abbrev miX6_serveWaiting : MI := (yX6_serveWaiting, cX6_serveWaiting, 4, none)
abbrev miX6_nextServed : MI := (yX6_nextServed, cX6_nextServed, 6, (some .int))
abbrev miX6_rankOf : MI := (yX6_rankOf, cX6_rankOf, 6, (some .int))
abbrev miX6_wantsToo : MI := (yX6_wantsToo, cX6_wantsToo, 3, (some .boolean))
abbrev miX6_begin : MI := (yX6_begin, cX6_begin, 5, none)
abbrev miX6_endFor : MI := (yX6_endFor, cX6_endFor, 3, none)
abbrev miX6_drink : MI := (yX6_drink, cX6_drink, 10, none)
abbrev miX6_coolsWithin : MI := (yX6_coolsWithin, cX6_coolsWithin, 4, (some .int))
abbrev miX6_heatOf : MI := (yX6_heatOf, cX6_heatOf, 3, (some .int))
abbrev miX6_paid : MI := (yX6_paid, cX6_paid, 3, (some .int))
abbrev miX6_pouredBack : MI := (yX6_pouredBack, cX6_pouredBack, 4, (some .int))
abbrev miX6_drunkInAll : MI := (yX6_drunkInAll, cX6_drunkInAll, 3, (some .int))
abbrev miX6_leftInAll : MI := (yX6_leftInAll, cX6_leftInAll, 3, (some .int))
abbrev miX6_servedBy : MI := (yX6_servedBy, cX6_servedBy, 4, (some .int))
abbrev miX7_init : MI := (yX7_init, cX7_init, 1, none)
abbrev miX7_startWith : MI := (yX7_startWith, cX7_startWith, 3, none)
abbrev miX7_forget : MI := (yX7_forget, cX7_forget, 1, none)
abbrev miX7_takeLines : MI := (yX7_takeLines, cX7_takeLines, 3, none)
abbrev miX7_copyHand : MI := (yX7_copyHand, cX7_copyHand, 2, none)
abbrev miX7_copyAll : MI := (yX7_copyAll, cX7_copyAll, 2, none)
abbrev miX7_valueOf : MI := (yX7_valueOf, cX7_valueOf, 4, (some .int))
abbrev miX7_change : MI := (yX7_change, cX7_change, 6, (some .boolean))
abbrev miX7_isAllowed : MI := (yX7_isAllowed, cX7_isAllowed, 3, (some .boolean))
abbrev miX7_isLaw : MI := (yX7_isLaw, cX7_isLaw, 4, (some .boolean))
abbrev miX8_init : MI := (yX8_init, cX8_init, 1, none)
abbrev miX8_append : MI := (yX8_append, cX8_append, 5, none)
abbrev miX8_rewind : MI := (yX8_rewind, cX8_rewind, 1, none)
abbrev miX8_finish : MI := (yX8_finish, cX8_finish, 1, (some .int))
abbrev miX8_goesOn : MI := (yX8_goesOn, cX8_goesOn, 1, (some .boolean))
abbrev miX8_fail : MI := (yX8_fail, cX8_fail, 2, none)
abbrev miX8_step : MI := (yX8_step, cX8_step, 1, none)
abbrev miX8_stepWord : MI := (yX8_stepWord, cX8_stepWord, 2, none)
abbrev miX8_stepNumber : MI := (yX8_stepNumber, cX8_stepNumber, 1, none)
abbrev miX8_isSign : MI := (yX8_isSign, cX8_isSign, 2, (some .boolean))
abbrev miX8_isName : MI := (yX8_isName, cX8_isName, 1, (some .boolean))
abbrev miX8_take : MI := (yX8_take, cX8_take, 2, none)
abbrev miX8_takeSign : MI := (yX8_takeSign, cX8_takeSign, 2, none)
abbrev miX8_takeNumber : MI := (yX8_takeNumber, cX8_takeNumber, 4, (some .int))
abbrev miX8_takeOneOf : MI := (yX8_takeOneOf, cX8_takeOneOf, 5, (some .int))
abbrev miX8_takeKnown : MI := (yX8_takeKnown, cX8_takeKnown, 2, (some .int))
abbrev miX9_init : MI := (yX9_init, cX9_init, 1, none)
abbrev miX11_init : MI := (yX11_init, cX11_init, 5, none)
abbrev miX11_feed : MI := (yX11_feed, cX11_feed, 7, (some .int))
abbrev miX11_junction : MI := (yX11_junction, cX11_junction, 4, (some .int))
abbrev miX11_days : MI := (yX11_days, cX11_days, 2, (some .int))
abbrev miX11_thing : MI := (yX11_thing, cX11_thing, 4, (some .int))
abbrev miX11_buyer : MI := (yX11_buyer, cX11_buyer, 4, (some .int))
abbrev miX11_out : MI := (yX11_out, cX11_out, 3, (some .boolean))
abbrev miX11_set : MI := (yX11_set, cX11_set, 3, (some .boolean))
abbrev miX11_heats : MI := (yX11_heats, cX11_heats, 3, (some .boolean))
abbrev miX11_undo : MI := (yX11_undo, cX11_undo, 2, (some .boolean))
abbrev miX11_judged : MI := (yX11_judged, cX11_judged, 8, (some .int))
abbrev miX11_served : MI := (yX11_served, cX11_served, 3, (some .int))
abbrev miX11_round : MI := (yX11_round, cX11_round, 2, (some .int))
abbrev miX11_chance : MI := (yX11_chance, cX11_chance, 10, (some .int))
abbrev miX11_rests : MI := (yX11_rests, cX11_rests, 5, (some .int))
abbrev miX11_errand : MI := (yX11_errand, cX11_errand, 8, (some .int))
abbrev miX11_table : MI := (yX11_table, cX11_table, 3, (some .int))
abbrev miX11_stand : MI := (yX11_stand, cX11_stand, 4, (some .int))
abbrev miX11_ring : MI := (yX11_ring, cX11_ring, 4, (some .int))
abbrev miX11_best : MI := (yX11_best, cX11_best, 7, (some .int))
abbrev miX11_tray : MI := (yX11_tray, cX11_tray, 3, (some .int))
abbrev miX11_price : MI := (yX11_price, cX11_price, 6, (some .int))
abbrev miX11_ahead : MI := (yX11_ahead, cX11_ahead, 3, (some .int))
abbrev miX11_most : MI := (yX11_most, cX11_most, 6, (some .int))
abbrev miX11_sell : MI := (yX11_sell, cX11_sell, 3, (some .boolean))
abbrev miX11_laws : MI := (yX11_laws, cX11_laws, 8, (some .int))
abbrev miX11_see : MI := (yX11_see, cX11_see, 3, (some .boolean))
abbrev miX11_was : MI := (yX11_was, cX11_was, 6, (some .int))
abbrev miX11_years : MI := (yX11_years, cX11_years, 9, (some .int))
abbrev miX11_mark : MI := (yX11_mark, cX11_mark, 4, (some .boolean))
abbrev miX11_count : MI := (yX11_count, cX11_count, 2, (some .int))
abbrev miX11_isThing : MI := (yX11_isThing, cX11_isThing, 2, (some .boolean))
abbrev miX11_isPoured : MI := (yX11_isPoured, cX11_isPoured, 2, (some .boolean))
abbrev miX11_isBuyer : MI := (yX11_isBuyer, cX11_isBuyer, 2, (some .boolean))
abbrev miX11_isSome : MI := (yX11_isSome, cX11_isSome, 2, (some .boolean))
abbrev miX11_changeByHand : MI := (yX11_changeByHand, cX11_changeByHand, 6, (some .boolean))
abbrev miX11_playNow : MI := (yX11_playNow, cX11_playNow, 1, none)
abbrev miX11_playTrial : MI := (yX11_playTrial, cX11_playTrial, 1, none)
abbrev miX11_weightOf : MI := (yX11_weightOf, cX11_weightOf, 7, (some .long))
abbrev miX11_fillGains : MI := (yX11_fillGains, cX11_fillGains, 4, none)
abbrev miX11_isAtRest : MI := (yX11_isAtRest, cX11_isAtRest, 5, (some .boolean))
abbrev miX11_errandSecond : MI := (yX11_errandSecond, cX11_errandSecond, 4, (some .int))
abbrev miX11_trayPence : MI := (yX11_trayPence, cX11_trayPence, 7, (some .int))
abbrev miX11_meanAhead : MI := (yX11_meanAhead, cX11_meanAhead, 5, (some .int))
abbrev miX12_init : MI := (yX12_init, cX12_init, 1, none)
abbrev miX12_thrown : MI := (yX12_thrown, cX12_thrown, 1, (some .int))
abbrev miX12_within : MI := (yX12_within, cX12_within, 3, (some .boolean))
abbrev miX12_away : MI := (yX12_away, cX12_away, 2, (some .int))
abbrev miX12_bits : MI := (yX12_bits, cX12_bits, 3, (some .int))
abbrev miX12_feed : MI := (yX12_feed, cX12_feed, 11, (some .int))
abbrev miX12_signAt : MI := (yX12_signAt, cX12_signAt, 2, (some .int))
abbrev miX12_nextToken : MI := (yX12_nextToken, cX12_nextToken, 2, none)
abbrev miX12_isWord : MI := (yX12_isWord, cX12_isWord, 3, (some .boolean))
abbrev miX12_isSign : MI := (yX12_isSign, cX12_isSign, 2, (some .boolean))
abbrev miX12_fails : MI := (yX12_fails, cX12_fails, 2, (some .boolean))
abbrev miX12_plain : MI := (yX12_plain, cX12_plain, 3, none)
abbrev miX12_puts : MI := (yX12_puts, cX12_puts, 2, none)
abbrev miX12_fact : MI := (yX12_fact, cX12_fact, 1, (some .int))
abbrev miX12_reads : MI := (yX12_reads, cX12_reads, 6, (some .boolean))
abbrev miX12_opens : MI := (yX12_opens, cX12_opens, 2, none)
abbrev miX12_sums : MI := (yX12_sums, cX12_sums, 2, none)
abbrev miX12_tests : MI := (yX12_tests, cX12_tests, 3, none)
abbrev miX12_worked : MI := (yX12_worked, cX12_worked, 6, (some .int))
abbrev miX12_isKept : MI := (yX12_isKept, cX12_isKept, 1, (some .boolean))
abbrev miX12_named : MI := (yX12_named, cX12_named, 6, (some .int))
abbrev miX12_coachNamed : MI := (yX12_coachNamed, cX12_coachNamed, 1, (some .int))
abbrev miX12_thingNamed : MI := (yX12_thingNamed, cX12_thingNamed, 2, (some .int))
abbrev miX12_buyerNamed : MI := (yX12_buyerNamed, cX12_buyerNamed, 2, (some .int))
abbrev miX12_needsNumber : MI := (yX12_needsNumber, cX12_needsNumber, 3, (some .boolean))
abbrev miX12_needsWord : MI := (yX12_needsWord, cX12_needsWord, 3, (some .boolean))
abbrev miX12_needsBoth : MI := (yX12_needsBoth, cX12_needsBoth, 5, (some .boolean))
abbrev miX12_closes : MI := (yX12_closes, cX12_closes, 1, (some .boolean))
abbrev miX12_isNew : MI := (yX12_isNew, cX12_isNew, 1, (some .boolean))
abbrev miX12_needsThing : MI := (yX12_needsThing, cX12_needsThing, 2, (some .boolean))
abbrev miX12_isTwice : MI := (yX12_isTwice, cX12_isTwice, 2, (some .boolean))
abbrev miX12_readsStop : MI := (yX12_readsStop, cX12_readsStop, 1, (some .boolean))
abbrev miX12_readsCoach : MI := (yX12_readsCoach, cX12_readsCoach, 4, (some .boolean))
abbrev miX12_readsThing : MI := (yX12_readsThing, cX12_readsThing, 4, (some .boolean))
abbrev miX12_readsWants : MI := (yX12_readsWants, cX12_readsWants, 3, (some .boolean))
abbrev miX12_readsBuyer : MI := (yX12_readsBuyer, cX12_readsBuyer, 4, (some .boolean))
abbrev miX12_readsOne : MI := (yX12_readsOne, cX12_readsOne, 4, (some .boolean))
abbrev miX12_readsLate : MI := (yX12_readsLate, cX12_readsLate, 3, (some .boolean))
abbrev miX12_readsOrder : MI := (yX12_readsOrder, cX12_readsOrder, 1, (some .boolean))
abbrev miX12_starts : MI := (yX12_starts, cX12_starts, 1, none)
abbrev miX12_readsAll : MI := (yX12_readsAll, cX12_readsAll, 2, (some .boolean))
abbrev miX12_moves : MI := (yX12_moves, cX12_moves, 3, none)
abbrev miX12_movesNames : MI := (yX12_movesNames, cX12_movesNames, 3, none)
abbrev miX12_lays : MI := (yX12_lays, cX12_lays, 1, none)
abbrev miX12_copies : MI := (yX12_copies, cX12_copies, 5, none)
abbrev miX12_readsLine : MI := (yX12_readsLine, cX12_readsLine, 3, (some .boolean))
abbrev miX12_laysLines : MI := (yX12_laysLines, cX12_laysLines, 4, none)
abbrev miX12_laysTold : MI := (yX12_laysTold, cX12_laysTold, 4, none)
abbrev miX12_fresh : MI := (yX12_fresh, cX12_fresh, 2, none)
abbrev miX12_junction : MI := (yX12_junction, cX12_junction, 2, (some .int))
abbrev miX12_days : MI := (yX12_days, cX12_days, 1, (some .int))
abbrev miX12_isThing : MI := (yX12_isThing, cX12_isThing, 2, (some .boolean))
abbrev miX12_isBuyer : MI := (yX12_isBuyer, cX12_isBuyer, 2, (some .boolean))
abbrev miX12_allBuyers : MI := (yX12_allBuyers, cX12_allBuyers, 1, (some .int))
abbrev miX12_wayOf : MI := (yX12_wayOf, cX12_wayOf, 2, (some .int))
abbrev miX12_goesAt : MI := (yX12_goesAt, cX12_goesAt, 2, (some .int))
abbrev miX12_comesAt : MI := (yX12_comesAt, cX12_comesAt, 2, (some .int))
abbrev miX12_manyOf : MI := (yX12_manyOf, cX12_manyOf, 4, (some .int))
abbrev miX12_secsOf : MI := (yX12_secsOf, cX12_secsOf, 4, (some .int))
abbrev miX12_wants : MI := (yX12_wants, cX12_wants, 4, (some .boolean))
abbrev miX12_lastsFor : MI := (yX12_lastsFor, cX12_lastsFor, 4, (some .int))
abbrev miX12_orderOf : MI := (yX12_orderOf, cX12_orderOf, 3, (some .int))
abbrev miX12_nextAt : MI := (yX12_nextAt, cX12_nextAt, 6, (some .int))
abbrev miX12_runs : MI := (yX12_runs, cX12_runs, 4, none)
abbrev miX12_heatAt : MI := (yX12_heatAt, cX12_heatAt, 5, (some .int))
abbrev miX12_drinks : MI := (yX12_drinks, cX12_drinks, 8, none)
abbrev miX12_drunkInAll : MI := (yX12_drunkInAll, cX12_drunkInAll, 3, (some .int))
abbrev miX12_leftInAll : MI := (yX12_leftInAll, cX12_leftInAll, 3, (some .int))
abbrev miX12_behindInAll : MI := (yX12_behindInAll, cX12_behindInAll, 3, (some .int))
abbrev miX12_pence : MI := (yX12_pence, cX12_pence, 4, (some .int))
abbrev miX12_servedBy : MI := (yX12_servedBy, cX12_servedBy, 4, (some .int))
abbrev miX12_thing : MI := (yX12_thing, cX12_thing, 3, (some .int))
abbrev miX12_buyer : MI := (yX12_buyer, cX12_buyer, 5, (some .int))
abbrev miX12_keeps : MI := (yX12_keeps, cX12_keeps, 2, none)
abbrev miX12_changes : MI := (yX12_changes, cX12_changes, 4, (some .boolean))
abbrev miX12_outThen : MI := (yX12_outThen, cX12_outThen, 3, (some .int))
abbrev miX12_out : MI := (yX12_out, cX12_out, 3, (some .boolean))
abbrev miX12_set : MI := (yX12_set, cX12_set, 4, (some .boolean))
abbrev miX12_heats : MI := (yX12_heats, cX12_heats, 3, (some .boolean))
abbrev miX12_undo : MI := (yX12_undo, cX12_undo, 1, (some .boolean))
abbrev miX12_goes : MI := (yX12_goes, cX12_goes, 4, (some .boolean))
abbrev miX12_judged : MI := (yX12_judged, cX12_judged, 4, (some .int))
abbrev miX12_served : MI := (yX12_served, cX12_served, 3, (some .int))
abbrev miX12_round : MI := (yX12_round, cX12_round, 2, (some .int))
abbrev miX12_hasAll : MI := (yX12_hasAll, cX12_hasAll, 2, (some .boolean))
abbrev miX12_chance : MI := (yX12_chance, cX12_chance, 11, (some .int))
abbrev miX12_rests : MI := (yX12_rests, cX12_rests, 8, (some .int))
abbrev miX12_errand : MI := (yX12_errand, cX12_errand, 8, (some .int))
abbrev miX12_table : MI := (yX12_table, cX12_table, 4, (some .int))
abbrev miX12_stand : MI := (yX12_stand, cX12_stand, 5, (some .int))
abbrev miX12_ring : MI := (yX12_ring, cX12_ring, 5, (some .int))
abbrev miX12_halves : MI := (yX12_halves, cX12_halves, 4, (some .int))
abbrev miX12_best : MI := (yX12_best, cX12_best, 8, (some .int))
abbrev miX12_trayOf : MI := (yX12_trayOf, cX12_trayOf, 7, (some .int))
abbrev miX12_tray : MI := (yX12_tray, cX12_tray, 3, (some .int))
abbrev miX12_price : MI := (yX12_price, cX12_price, 6, (some .int))
abbrev miX12_aheadOf : MI := (yX12_aheadOf, cX12_aheadOf, 5, (some .int))
abbrev miX12_ahead : MI := (yX12_ahead, cX12_ahead, 3, (some .int))
abbrev miX12_most : MI := (yX12_most, cX12_most, 6, (some .int))
abbrev miX12_sell : MI := (yX12_sell, cX12_sell, 3, (some .boolean))
abbrev miX12_isLaw : MI := (yX12_isLaw, cX12_isLaw, 4, (some .boolean))
abbrev miX12_laws : MI := (yX12_laws, cX12_laws, 8, (some .int))
abbrev miX12_see : MI := (yX12_see, cX12_see, 3, (some .boolean))
abbrev miX12_was : MI := (yX12_was, cX12_was, 5, (some .int))
abbrev miX12_draws : MI := (yX12_draws, cX12_draws, 2, (some .int))
abbrev miX12_years : MI := (yX12_years, cX12_years, 9, (some .int))
abbrev miX12_mark : MI := (yX12_mark, cX12_mark, 5, (some .boolean))
abbrev miX12_count : MI := (yX12_count, cX12_count, 2, (some .int))
abbrev miJ11_isValidCodePoint_9a6ad : MI := (yJ11_isValidCodePoint_9a6ad, cJ11_isValidCodePoint_9a6ad, 2, (some .boolean))
abbrev miJ11_highSurrogate_5068e : MI := (yJ11_highSurrogate_5068e, cJ11_highSurrogate_5068e, 1, (some .char))
abbrev miJ11_lowSurrogate_5068e : MI := (yJ11_lowSurrogate_5068e, cJ11_lowSurrogate_5068e, 1, (some .char))
abbrev miJ6_bitCount_0f7a4 : MI := (yJ6_bitCount_0f7a4, cJ6_bitCount_0f7a4, 1, (some .int))
abbrev miJ9_max_7cf53 : MI := (yJ9_max_7cf53, cJ9_max_7cf53, 2, (some .int))
abbrev miJ9_min_7cf53 : MI := (yJ9_min_7cf53, cJ9_min_7cf53, 2, (some .int))
abbrev miJ0_length_8abf5 : MI := (yJ0_length_8abf5, cJ0_length_8abf5, 1, (some .int))
abbrev miJ0_indexOf_0f7a4 : MI := (yJ0_indexOf_0f7a4, cJ0_indexOf_0f7a4, 2, (some .int))
abbrev miJ0_indexOf_7cf53 : MI := (yJ0_indexOf_7cf53, cJ0_indexOf_7cf53, 3, (some .int))
abbrev miJ0_coder_7d493 : MI := (yJ0_coder_7d493, cJ0_coder_7d493, 1, (some .byte))
abbrev miJ0_isLatin1_aae02 : MI := (yJ0_isLatin1_aae02, cJ0_isLatin1_aae02, 1, (some .boolean))
abbrev miJ0_checkBoundsBeginEnd_23922 : MI := (yJ0_checkBoundsBeginEnd_23922, cJ0_checkBoundsBeginEnd_23922, 3, none)
abbrev miJ1_canEncode_9a6ad : MI := (yJ1_canEncode_9a6ad, cJ1_canEncode_9a6ad, 1, (some .boolean))
abbrev miJ1_indexOf_4cfef : MI := (yJ1_indexOf_4cfef, cJ1_indexOf_4cfef, 4, (some .int))
abbrev miJ1_indexOfChar_4cfef : MI := (yJ1_indexOfChar_4cfef, cJ1_indexOfChar_4cfef, 6, (some .int))
abbrev miJ2_getChar_3b067 : MI := (yJ2_getChar_3b067, cJ2_getChar_3b067, 2, (some .char))
abbrev miJ2_length_9d52b : MI := (yJ2_length_9d52b, cJ2_length_9d52b, 1, (some .int))
abbrev miJ2_indexOf_4cfef : MI := (yJ2_indexOf_4cfef, cJ2_indexOf_4cfef, 4, (some .int))
abbrev miJ2_indexOfChar_4cfef : MI := (yJ2_indexOfChar_4cfef, cJ2_indexOfChar_4cfef, 4, (some .int))
abbrev miJ2_indexOfCharUnsafe_4cfef : MI := (yJ2_indexOfCharUnsafe_4cfef, cJ2_indexOfCharUnsafe_4cfef, 5, (some .int))
abbrev miJ2_indexOfSupplementary_4cfef : MI := (yJ2_indexOfSupplementary_4cfef, cJ2_indexOfSupplementary_4cfef, 7, (some .int))
abbrev miJ2_checkBoundsBeginEnd_d044e : MI := (yJ2_checkBoundsBeginEnd_d044e, cJ2_checkBoundsBeginEnd_d044e, 3, none)
abbrev miJ3_checkFromToIndex_8c36e : MI := (yJ3_checkFromToIndex_8c36e, cJ3_checkFromToIndex_8c36e, 4, (some .int))
abbrev miL_rests : MI := (yL_rests, cL_rests, 5, (some .int))
theorem fn_0_5 : FN 0 5 true := ⟨_, _, _, rfl, rfl⟩
theorem fn_1_1 : FN 1 1 true := ⟨_, _, _, rfl, rfl⟩
theorem fn_1_0 : FN 1 0 true := ⟨_, _, _, rfl, rfl⟩
theorem fr_1_0 : FR 1 0 := ⟨_, _, _, .object "TeaJunction$Tape", rfl, by decide +kernel, fun _ => ⟨rfl, rfl⟩, rfl, rfl⟩
theorem fn_1_2 : FN 1 2 false := ⟨_, _, _, rfl, rfl⟩
theorem fn_2_0 : FN 2 0 true := ⟨_, _, _, rfl, rfl⟩
theorem fn_2_2 : FN 2 2 true := ⟨_, _, _, rfl, rfl⟩
theorem fn_2_1 : FN 2 1 false := ⟨_, _, _, rfl, rfl⟩
theorem fn_3_0 : FN 3 0 true := ⟨_, _, _, rfl, rfl⟩
theorem fr_3_0 : FR 3 0 := ⟨_, _, _, .object "TeaJunction$Tape", rfl, by decide +kernel, fun _ => ⟨rfl, rfl⟩, rfl, rfl⟩
theorem fn_4_7 : FN 4 7 true := ⟨_, _, _, rfl, rfl⟩
theorem fn_4_8 : FN 4 8 true := ⟨_, _, _, rfl, rfl⟩
theorem fr_4_8 : FR 4 8 := ⟨_, _, _, .object "TeaJunction$Order", rfl, by decide +kernel, fun _ => ⟨rfl, rfl⟩, rfl, rfl⟩
theorem fn_4_10 : FN 4 10 true := ⟨_, _, _, rfl, rfl⟩
theorem fn_4_11 : FN 4 11 true := ⟨_, _, _, rfl, rfl⟩
theorem fn_4_13 : FN 4 13 true := ⟨_, _, _, rfl, rfl⟩
theorem fn_4_15 : FN 4 15 true := ⟨_, _, _, rfl, rfl⟩
theorem fn_4_0 : FN 4 0 false := ⟨_, _, _, rfl, rfl⟩
theorem fn_4_1 : FN 4 1 false := ⟨_, _, _, rfl, rfl⟩
theorem fn_4_2 : FN 4 2 false := ⟨_, _, _, rfl, rfl⟩
theorem fn_4_3 : FN 4 3 false := ⟨_, _, _, rfl, rfl⟩
theorem fn_4_4 : FN 4 4 false := ⟨_, _, _, rfl, rfl⟩
theorem fn_4_5 : FN 4 5 false := ⟨_, _, _, rfl, rfl⟩
theorem fn_4_6 : FN 4 6 false := ⟨_, _, _, rfl, rfl⟩
theorem fn_4_9 : FN 4 9 false := ⟨_, _, _, rfl, rfl⟩
theorem fn_4_12 : FN 4 12 false := ⟨_, _, _, rfl, rfl⟩
theorem fn_4_14 : FN 4 14 false := ⟨_, _, _, rfl, rfl⟩
theorem fn_5_0 : FN 5 0 true := ⟨_, _, _, rfl, rfl⟩
theorem fr_5_0 : FR 5 0 := ⟨_, _, _, .object "TeaJunction$Tape", rfl, by decide +kernel, fun _ => ⟨rfl, rfl⟩, rfl, rfl⟩
theorem fn_5_1 : FN 5 1 true := ⟨_, _, _, rfl, rfl⟩
theorem fr_5_1 : FR 5 1 := ⟨_, _, _, .object "TeaJunction$OrderReader", rfl, by decide +kernel, fun _ => ⟨rfl, rfl⟩, rfl, rfl⟩
theorem fn_5_2 : FN 5 2 false := ⟨_, _, _, rfl, rfl⟩
theorem fn_9_0 : FN 9 0 false := ⟨_, _, _, rfl, rfl⟩
theorem fn_9_1 : FN 9 1 false := ⟨_, _, _, rfl, rfl⟩
theorem fn_9_2 : FN 9 2 false := ⟨_, _, _, rfl, rfl⟩
theorem fn_9_3 : FN 9 3 false := ⟨_, _, _, rfl, rfl⟩
theorem fn_9_4 : FN 9 4 false := ⟨_, _, _, rfl, rfl⟩
theorem fn_9_5 : FN 9 5 false := ⟨_, _, _, rfl, rfl⟩
theorem fn_0_0 : FN 0 0 false := ⟨_, _, _, rfl, rfl⟩
theorem fn_0_1 : FN 0 1 false := ⟨_, _, _, rfl, rfl⟩
theorem fn_0_2 : FN 0 2 false := ⟨_, _, _, rfl, rfl⟩
theorem fn_0_3 : FN 0 3 false := ⟨_, _, _, rfl, rfl⟩
theorem fn_0_4 : FN 0 4 false := ⟨_, _, _, rfl, rfl⟩
theorem fn_0_6 : FN 0 6 false := ⟨_, _, _, rfl, rfl⟩
theorem fn_0_7 : FN 0 7 false := ⟨_, _, _, rfl, rfl⟩
theorem fn_6_8 : FN 6 8 true := ⟨_, _, _, rfl, rfl⟩
theorem fn_6_9 : FN 6 9 true := ⟨_, _, _, rfl, rfl⟩
theorem fn_6_10 : FN 6 10 true := ⟨_, _, _, rfl, rfl⟩
theorem fn_6_11 : FN 6 11 true := ⟨_, _, _, rfl, rfl⟩
theorem fn_6_12 : FN 6 12 true := ⟨_, _, _, rfl, rfl⟩
theorem fn_6_13 : FN 6 13 true := ⟨_, _, _, rfl, rfl⟩
theorem fn_6_14 : FN 6 14 true := ⟨_, _, _, rfl, rfl⟩
theorem fn_6_0 : FN 6 0 false := ⟨_, _, _, rfl, rfl⟩
theorem fr_6_0 : FR 6 0 := ⟨_, _, _, .object "TeaJunction$Plan", rfl, by decide +kernel, fun _ => ⟨rfl, rfl⟩, rfl, rfl⟩
theorem fn_6_1 : FN 6 1 false := ⟨_, _, _, rfl, rfl⟩
theorem fr_6_1 : FR 6 1 := ⟨_, _, _, .object "TeaJunction$State", rfl, by decide +kernel, fun _ => ⟨rfl, rfl⟩, rfl, rfl⟩
theorem fn_6_2 : FN 6 2 false := ⟨_, _, _, rfl, rfl⟩
theorem fn_6_3 : FN 6 3 false := ⟨_, _, _, rfl, rfl⟩
theorem fn_6_4 : FN 6 4 false := ⟨_, _, _, rfl, rfl⟩
theorem fn_6_5 : FN 6 5 false := ⟨_, _, _, rfl, rfl⟩
theorem fn_6_6 : FN 6 6 false := ⟨_, _, _, rfl, rfl⟩
theorem fn_6_7 : FN 6 7 false := ⟨_, _, _, rfl, rfl⟩
theorem fn_6_15 : FN 6 15 false := ⟨_, _, _, rfl, rfl⟩
theorem fn_6_16 : FN 6 16 false := ⟨_, _, _, rfl, rfl⟩
theorem fn_7_4 : FN 7 4 true := ⟨_, _, _, rfl, rfl⟩
theorem fn_7_5 : FN 7 5 true := ⟨_, _, _, rfl, rfl⟩
theorem fn_7_7 : FN 7 7 true := ⟨_, _, _, rfl, rfl⟩
theorem fn_7_9 : FN 7 9 true := ⟨_, _, _, rfl, rfl⟩
theorem fn_7_0 : FN 7 0 false := ⟨_, _, _, rfl, rfl⟩
theorem fn_7_1 : FN 7 1 false := ⟨_, _, _, rfl, rfl⟩
theorem fn_7_2 : FN 7 2 false := ⟨_, _, _, rfl, rfl⟩
theorem fn_7_3 : FN 7 3 false := ⟨_, _, _, rfl, rfl⟩
theorem fn_7_6 : FN 7 6 false := ⟨_, _, _, rfl, rfl⟩
theorem fn_7_8 : FN 7 8 false := ⟨_, _, _, rfl, rfl⟩
theorem fn_7_10 : FN 7 10 false := ⟨_, _, _, rfl, rfl⟩
theorem fn_8_0 : FN 8 0 true := ⟨_, _, _, rfl, rfl⟩
theorem fn_8_1 : FN 8 1 false := ⟨_, _, _, rfl, rfl⟩
theorem fn_8_9 : FN 8 9 false := ⟨_, _, _, rfl, rfl⟩
theorem fn_8_3 : FN 8 3 false := ⟨_, _, _, rfl, rfl⟩
theorem fn_8_4 : FN 8 4 false := ⟨_, _, _, rfl, rfl⟩
theorem fn_8_8 : FN 8 8 false := ⟨_, _, _, rfl, rfl⟩
theorem fr_8_8 : FR 8 8 := ⟨_, _, _, .object "TeaJunction$Word", rfl, by decide +kernel, fun _ => ⟨rfl, rfl⟩, rfl, rfl⟩
theorem fn_8_2 : FN 8 2 false := ⟨_, _, _, rfl, rfl⟩
theorem fn_8_5 : FN 8 5 false := ⟨_, _, _, rfl, rfl⟩
theorem fn_8_7 : FN 8 7 false := ⟨_, _, _, rfl, rfl⟩
theorem fn_8_6 : FN 8 6 false := ⟨_, _, _, rfl, rfl⟩
theorem fn_10_4 : FN 10 4 false := ⟨_, _, _, rfl, rfl⟩
theorem fr_10_4 : FR 10 4 := ⟨_, _, _, .object "TeaJunction$Plan", rfl, by decide +kernel, fun _ => ⟨rfl, rfl⟩, rfl, rfl⟩
theorem fn_10_6 : FN 10 6 true := ⟨_, _, _, rfl, rfl⟩
theorem fr_10_6 : FR 10 6 := ⟨_, _, _, .object "TeaJunction$State", rfl, by decide +kernel, fun _ => ⟨rfl, rfl⟩, rfl, rfl⟩
theorem fn_10_7 : FN 10 7 true := ⟨_, _, _, rfl, rfl⟩
theorem fn_10_9 : FN 10 9 true := ⟨_, _, _, rfl, rfl⟩
theorem fn_10_11 : FN 10 11 true := ⟨_, _, _, rfl, rfl⟩
theorem fn_10_0 : FN 10 0 true := ⟨_, _, _, rfl, rfl⟩
theorem fr_10_0 : FR 10 0 := ⟨_, _, _, .object "TeaJunction$Tape", rfl, by decide +kernel, fun _ => ⟨rfl, rfl⟩, rfl, rfl⟩
theorem fn_10_1 : FN 10 1 true := ⟨_, _, _, rfl, rfl⟩
theorem fr_10_1 : FR 10 1 := ⟨_, _, _, .object "TeaJunction$PlanReader", rfl, by decide +kernel, fun _ => ⟨rfl, rfl⟩, rfl, rfl⟩
theorem fn_10_2 : FN 10 2 true := ⟨_, _, _, rfl, rfl⟩
theorem fr_10_2 : FR 10 2 := ⟨_, _, _, .object "TeaJunction$DaysReader", rfl, by decide +kernel, fun _ => ⟨rfl, rfl⟩, rfl, rfl⟩
theorem fn_10_3 : FN 10 3 false := ⟨_, _, _, rfl, rfl⟩
theorem fr_10_3 : FR 10 3 := ⟨_, _, _, .object "TeaJunction$Plan", rfl, by decide +kernel, fun _ => ⟨rfl, rfl⟩, rfl, rfl⟩
theorem fn_10_5 : FN 10 5 true := ⟨_, _, _, rfl, rfl⟩
theorem fr_10_5 : FR 10 5 := ⟨_, _, _, .object "TeaJunction$State", rfl, by decide +kernel, fun _ => ⟨rfl, rfl⟩, rfl, rfl⟩
theorem fn_10_8 : FN 10 8 true := ⟨_, _, _, rfl, rfl⟩
theorem fr_10_8 : FR 10 8 := ⟨_, _, _, .object "TeaJunction$Round", rfl, by decide +kernel, fun _ => ⟨rfl, rfl⟩, rfl, rfl⟩
theorem fn_10_10 : FN 10 10 false := ⟨_, _, _, rfl, rfl⟩
theorem fn_7_11 : FN 7 11 false := ⟨_, _, _, rfl, rfl⟩
theorem fn_11_2 : FN 11 2 true := ⟨_, _, _, rfl, rfl⟩
theorem fn_11_10 : FN 11 10 true := ⟨_, _, _, rfl, rfl⟩
theorem fn_11_11 : FN 11 11 true := ⟨_, _, _, rfl, rfl⟩
theorem fn_11_12 : FN 11 12 true := ⟨_, _, _, rfl, rfl⟩
theorem fn_11_13 : FN 11 13 true := ⟨_, _, _, rfl, rfl⟩
theorem fn_11_14 : FN 11 14 true := ⟨_, _, _, rfl, rfl⟩
theorem fn_11_15 : FN 11 15 true := ⟨_, _, _, rfl, rfl⟩
theorem fn_11_16 : FN 11 16 true := ⟨_, _, _, rfl, rfl⟩
theorem fn_11_17 : FN 11 17 true := ⟨_, _, _, rfl, rfl⟩
theorem fn_11_18 : FN 11 18 true := ⟨_, _, _, rfl, rfl⟩
theorem fn_11_19 : FN 11 19 true := ⟨_, _, _, rfl, rfl⟩
theorem fn_11_20 : FN 11 20 true := ⟨_, _, _, rfl, rfl⟩
theorem fn_11_21 : FN 11 21 true := ⟨_, _, _, rfl, rfl⟩
theorem fn_11_22 : FN 11 22 true := ⟨_, _, _, rfl, rfl⟩
theorem fn_11_23 : FN 11 23 true := ⟨_, _, _, rfl, rfl⟩
theorem fn_11_24 : FN 11 24 true := ⟨_, _, _, rfl, rfl⟩
theorem fn_11_25 : FN 11 25 true := ⟨_, _, _, rfl, rfl⟩
theorem fn_11_26 : FN 11 26 true := ⟨_, _, _, rfl, rfl⟩
theorem fn_11_27 : FN 11 27 true := ⟨_, _, _, rfl, rfl⟩
theorem fn_11_28 : FN 11 28 true := ⟨_, _, _, rfl, rfl⟩
theorem fn_11_29 : FN 11 29 true := ⟨_, _, _, rfl, rfl⟩
theorem fn_11_32 : FN 11 32 true := ⟨_, _, _, rfl, rfl⟩
theorem fn_11_33 : FN 11 33 true := ⟨_, _, _, rfl, rfl⟩
theorem fn_11_34 : FN 11 34 true := ⟨_, _, _, rfl, rfl⟩
theorem fn_11_35 : FN 11 35 true := ⟨_, _, _, rfl, rfl⟩
theorem fn_11_36 : FN 11 36 true := ⟨_, _, _, rfl, rfl⟩
theorem fn_11_37 : FN 11 37 true := ⟨_, _, _, rfl, rfl⟩
theorem fn_11_38 : FN 11 38 true := ⟨_, _, _, rfl, rfl⟩
theorem fn_11_39 : FN 11 39 true := ⟨_, _, _, rfl, rfl⟩
theorem fn_11_40 : FN 11 40 true := ⟨_, _, _, rfl, rfl⟩
theorem fn_11_41 : FN 11 41 true := ⟨_, _, _, rfl, rfl⟩
theorem fn_11_42 : FN 11 42 true := ⟨_, _, _, rfl, rfl⟩
theorem fn_11_43 : FN 11 43 true := ⟨_, _, _, rfl, rfl⟩
theorem fn_11_45 : FN 11 45 true := ⟨_, _, _, rfl, rfl⟩
theorem fn_11_46 : FN 11 46 true := ⟨_, _, _, rfl, rfl⟩
theorem fn_11_47 : FN 11 47 true := ⟨_, _, _, rfl, rfl⟩
theorem fn_11_48 : FN 11 48 true := ⟨_, _, _, rfl, rfl⟩
theorem fn_11_49 : FN 11 49 true := ⟨_, _, _, rfl, rfl⟩
theorem fn_11_50 : FN 11 50 true := ⟨_, _, _, rfl, rfl⟩
theorem fn_11_51 : FN 11 51 true := ⟨_, _, _, rfl, rfl⟩
theorem fn_11_52 : FN 11 52 true := ⟨_, _, _, rfl, rfl⟩
theorem fn_11_53 : FN 11 53 true := ⟨_, _, _, rfl, rfl⟩
theorem fn_11_54 : FN 11 54 true := ⟨_, _, _, rfl, rfl⟩
theorem fn_11_55 : FN 11 55 true := ⟨_, _, _, rfl, rfl⟩
theorem fn_11_56 : FN 11 56 true := ⟨_, _, _, rfl, rfl⟩
theorem fn_11_57 : FN 11 57 true := ⟨_, _, _, rfl, rfl⟩
theorem fn_11_58 : FN 11 58 true := ⟨_, _, _, rfl, rfl⟩
theorem fn_11_59 : FN 11 59 true := ⟨_, _, _, rfl, rfl⟩
theorem fn_11_62 : FN 11 62 false := ⟨_, _, _, rfl, rfl⟩
theorem fn_11_64 : FN 11 64 false := ⟨_, _, _, rfl, rfl⟩
theorem fn_11_67 : FN 11 67 true := ⟨_, _, _, rfl, rfl⟩
theorem fn_11_68 : FN 11 68 true := ⟨_, _, _, rfl, rfl⟩
theorem fn_11_69 : FN 11 69 true := ⟨_, _, _, rfl, rfl⟩
theorem fn_11_70 : FN 11 70 true := ⟨_, _, _, rfl, rfl⟩
theorem fn_11_71 : FN 11 71 true := ⟨_, _, _, rfl, rfl⟩
theorem fn_11_72 : FN 11 72 true := ⟨_, _, _, rfl, rfl⟩
theorem fn_11_73 : FN 11 73 true := ⟨_, _, _, rfl, rfl⟩
theorem fn_11_76 : FN 11 76 true := ⟨_, _, _, rfl, rfl⟩
theorem fn_11_0 : FN 11 0 false := ⟨_, _, _, rfl, rfl⟩
theorem fn_11_1 : FN 11 1 false := ⟨_, _, _, rfl, rfl⟩
theorem fn_11_4 : FN 11 4 false := ⟨_, _, _, rfl, rfl⟩
theorem fn_11_5 : FN 11 5 false := ⟨_, _, _, rfl, rfl⟩
theorem fn_11_7 : FN 11 7 false := ⟨_, _, _, rfl, rfl⟩
theorem fn_11_8 : FN 11 8 false := ⟨_, _, _, rfl, rfl⟩
theorem fn_11_6 : FN 11 6 false := ⟨_, _, _, rfl, rfl⟩
theorem fn_11_9 : FN 11 9 false := ⟨_, _, _, rfl, rfl⟩
theorem fn_11_30 : FN 11 30 false := ⟨_, _, _, rfl, rfl⟩
theorem fn_11_44 : FN 11 44 false := ⟨_, _, _, rfl, rfl⟩
theorem fn_11_31 : FN 11 31 false := ⟨_, _, _, rfl, rfl⟩
theorem fn_11_3 : FN 11 3 false := ⟨_, _, _, rfl, rfl⟩
theorem fn_11_60 : FN 11 60 false := ⟨_, _, _, rfl, rfl⟩
theorem fn_11_65 : FN 11 65 false := ⟨_, _, _, rfl, rfl⟩
theorem fn_11_74 : FN 11 74 false := ⟨_, _, _, rfl, rfl⟩
theorem fn_11_75 : FN 11 75 false := ⟨_, _, _, rfl, rfl⟩
theorem fn_11_63 : FN 11 63 false := ⟨_, _, _, rfl, rfl⟩
theorem fn_11_61 : FN 11 61 false := ⟨_, _, _, rfl, rfl⟩
theorem fn_11_66 : FN 11 66 false := ⟨_, _, _, rfl, rfl⟩
theorem fn_11_77 : FN 11 77 false := ⟨_, _, _, rfl, rfl⟩
theorem fl_X0_9 : FL RX0 9 0 5 2 := ⟨RX0, TX0, 8, tyX0, rfl, tgX0, tyX0_ok, nmX0, rfl, by decide, rfl, TG_t1 121 (by decide +kernel) rfl, rfl, fun z => absurd rfl z⟩
theorem fl_X1_9 : FL RX1 9 1 1 2 := ⟨RX1, TX1, 3, tyX1, rfl, tgX1, tyX1_ok, nmX1, rfl, by decide, rfl, TG_t2 140 (by decide +kernel) rfl, rfl, fun z => absurd rfl z⟩
theorem fl_X1_15 : FL RX1 15 1 0 2 := ⟨RX1, TX1, 3, tyX1, rfl, tgX1, tyX1_ok, nmX1, rfl, by decide, rfl, TG_t2 139 (by decide +kernel) rfl, rfl, fun z => absurd rfl z⟩
theorem fl_X1_19 : FL RX1 19 1 2 0 := ⟨RX1, TX1, 3, tyX1, rfl, tgX1, tyX1_ok, nmX1, rfl, by decide, rfl, TG_t2 142 (by decide +kernel) rfl, rfl, fun _ => by decide +kernel⟩
theorem fl_X1_40 : FL RX1 40 8 8 2 := ⟨RX8, TX8, 10, tyX8, rfl, tgX8, tyX8_ok, nmX8, rfl, by decide, rfl, TG_t2 78 (by decide +kernel) rfl, rfl, fun z => absurd rfl z⟩
theorem gs_X1_48 : Cond.fieldLink RX1 48 RX10 (nmW.getD 20 "") "LTeaJunction$Word;" ∈ TG := TG_t4 106 (by decide +kernel) rfl
theorem fl_X1_60 : FL RX1 60 8 5 1 := ⟨RX8, TX8, 10, tyX8, rfl, tgX8, tyX8_ok, nmX8, rfl, by decide, rfl, TG_t2 70 (by decide +kernel) rfl, rfl, fun _ => by decide +kernel⟩
theorem gs_X1_89 : Cond.fieldLink RX1 89 RX10 (nmW.getD 21 "") "LTeaJunction$Word;" ∈ TG := TG_t4 108 (by decide +kernel) rfl
theorem gs_X1_92 : Cond.fieldLink RX1 92 RX10 (nmW.getD 1 "") "LTeaJunction$Word;" ∈ TG := TG_t4 110 (by decide +kernel) rfl
theorem gs_X1_95 : Cond.fieldLink RX1 95 RX10 (nmW.getD 22 "") "LTeaJunction$Word;" ∈ TG := TG_t4 111 (by decide +kernel) rfl
theorem gs_X1_98 : Cond.fieldLink RX1 98 RX10 (nmW.getD 13 "") "LTeaJunction$Word;" ∈ TG := TG_t4 113 (by decide +kernel) rfl
theorem gs_X1_101 : Cond.fieldLink RX1 101 RX10 (nmW.getD 7 "") "LTeaJunction$Word;" ∈ TG := TG_t4 114 (by decide +kernel) rfl
theorem gs_X1_104 : Cond.fieldLink RX1 104 RX10 (nmW.getD 23 "") "LTeaJunction$Word;" ∈ TG := TG_t4 115 (by decide +kernel) rfl
theorem fl_X2_9 : FL RX2 9 2 0 2 := ⟨RX2, TX2, 3, tyX2, rfl, tgX2, tyX2_ok, nmX2, rfl, by decide, rfl, TG_t1 47 (by decide +kernel) rfl, rfl, fun z => absurd rfl z⟩
theorem fl_X2_15 : FL RX2 15 2 2 2 := ⟨RX2, TX2, 3, tyX2, rfl, tgX2, tyX2_ok, nmX2, rfl, by decide, rfl, TG_t1 50 (by decide +kernel) rfl, rfl, fun z => absurd rfl z⟩
theorem fl_X2_18 : FL RX2 18 2 1 0 := ⟨RX2, TX2, 3, tyX2, rfl, tgX2, tyX2_ok, nmX2, rfl, by decide, rfl, TG_t1 48 (by decide +kernel) rfl, rfl, fun _ => by decide +kernel⟩
theorem fl_X3_9 : FL RX3 9 3 0 2 := ⟨RX3, TX3, 1, tyX3, rfl, tgX3, tyX3_ok, nmX3, rfl, by decide, rfl, TG_t2 119 (by decide +kernel) rfl, rfl, fun z => absurd rfl z⟩
theorem fl_X3_19 : FL RX3 19 8 8 2 := ⟨RX8, TX8, 10, tyX8, rfl, tgX8, tyX8_ok, nmX8, rfl, by decide, rfl, TG_t2 76 (by decide +kernel) rfl, rfl, fun z => absurd rfl z⟩
theorem gs_X3_25 : Cond.fieldLink RX3 25 RX10 (nmW.getD 31 "") "LTeaJunction$Word;" ∈ TG := TG_t4 59 (by decide +kernel) rfl
theorem gs_X3_30 : Cond.fieldLink RX3 30 RX10 (nmW.getD 32 "") "LTeaJunction$Word;" ∈ TG := TG_t4 61 (by decide +kernel) rfl
theorem eo_X3_55 : Cond.fieldLink RX3 55 RX10 "once" "I" ∈ TG := TG_t9 46 (by decide +kernel) rfl
theorem gs_X3_59 : Cond.fieldLink RX3 59 RX10 (nmW.getD 30 "") "LTeaJunction$Word;" ∈ TG := TG_t4 32 (by decide +kernel) rfl
theorem fl_X3_62 : FL RX3 62 8 4 0 := ⟨RX8, TX8, 10, tyX8, rfl, tgX8, tyX8_ok, nmX8, rfl, by decide, rfl, TG_t2 68 (by decide +kernel) rfl, rfl, fun _ => by decide +kernel⟩
theorem fl_X3_79 : FL RX3 79 8 6 0 := ⟨RX8, TX8, 10, tyX8, rfl, tgX8, tyX8_ok, nmX8, rfl, by decide, rfl, TG_t2 73 (by decide +kernel) rfl, rfl, fun _ => by decide +kernel⟩
theorem gs_X3_82 : Cond.fieldLink RX3 82 RX10 (nmW.getD 33 "") "LTeaJunction$Word;" ∈ TG := TG_t4 53 (by decide +kernel) rfl
theorem gs_X3_85 : Cond.fieldLink RX3 85 RX10 (nmW.getD 34 "") "LTeaJunction$Word;" ∈ TG := TG_t4 55 (by decide +kernel) rfl
theorem gs_X3_88 : Cond.fieldLink RX3 88 RX10 (nmW.getD 35 "") "LTeaJunction$Word;" ∈ TG := TG_t4 57 (by decide +kernel) rfl
theorem fl_X4_9 : FL RX4 9 4 7 2 := ⟨RX4, TX4, 16, tyX4, rfl, tgX4, tyX4_ok, nmX4, rfl, by decide, rfl, TG_t1 171 (by decide +kernel) rfl, rfl, fun z => absurd rfl z⟩
theorem fl_X4_18 : FL RX4 18 4 8 2 := ⟨RX4, TX4, 16, tyX4, rfl, tgX4, tyX4_ok, nmX4, rfl, by decide, rfl, TG_t1 174 (by decide +kernel) rfl, rfl, fun z => absurd rfl z⟩
theorem fl_X4_22 : FL RX4 22 4 10 2 := ⟨RX4, TX4, 16, tyX4, rfl, tgX4, tyX4_ok, nmX4, rfl, by decide, rfl, TG_t1 180 (by decide +kernel) rfl, rfl, fun z => absurd rfl z⟩
theorem fl_X4_26 : FL RX4 26 4 11 2 := ⟨RX4, TX4, 16, tyX4, rfl, tgX4, tyX4_ok, nmX4, rfl, by decide, rfl, TG_t1 182 (by decide +kernel) rfl, rfl, fun z => absurd rfl z⟩
theorem fl_X4_31 : FL RX4 31 4 13 2 := ⟨RX4, TX4, 16, tyX4, rfl, tgX4, tyX4_ok, nmX4, rfl, by decide, rfl, TG_t1 189 (by decide +kernel) rfl, rfl, fun z => absurd rfl z⟩
theorem fl_X4_37 : FL RX4 37 4 15 2 := ⟨RX4, TX4, 16, tyX4, rfl, tgX4, tyX4_ok, nmX4, rfl, by decide, rfl, TG_t1 199 (by decide +kernel) rfl, rfl, fun z => absurd rfl z⟩
theorem fl_X4_46 : FL RX4 46 4 0 0 := ⟨RX4, TX4, 16, tyX4, rfl, tgX4, tyX4_ok, nmX4, rfl, by decide, rfl, TG_t1 149 (by decide +kernel) rfl, rfl, fun _ => by decide +kernel⟩
theorem fl_X4_50 : FL RX4 50 4 1 0 := ⟨RX4, TX4, 16, tyX4, rfl, tgX4, tyX4_ok, nmX4, rfl, by decide, rfl, TG_t1 155 (by decide +kernel) rfl, rfl, fun _ => by decide +kernel⟩
theorem fl_X4_53 : FL RX4 53 4 2 0 := ⟨RX4, TX4, 16, tyX4, rfl, tgX4, tyX4_ok, nmX4, rfl, by decide, rfl, TG_t1 157 (by decide +kernel) rfl, rfl, fun _ => by decide +kernel⟩
theorem fl_X4_56 : FL RX4 56 4 3 0 := ⟨RX4, TX4, 16, tyX4, rfl, tgX4, tyX4_ok, nmX4, rfl, by decide, rfl, TG_t1 160 (by decide +kernel) rfl, rfl, fun _ => by decide +kernel⟩
theorem fl_X4_59 : FL RX4 59 4 4 0 := ⟨RX4, TX4, 16, tyX4, rfl, tgX4, tyX4_ok, nmX4, rfl, by decide, rfl, TG_t1 163 (by decide +kernel) rfl, rfl, fun _ => by decide +kernel⟩
theorem fl_X4_62 : FL RX4 62 4 5 0 := ⟨RX4, TX4, 16, tyX4, rfl, tgX4, tyX4_ok, nmX4, rfl, by decide, rfl, TG_t1 166 (by decide +kernel) rfl, rfl, fun _ => by decide +kernel⟩
theorem fl_X4_65 : FL RX4 65 4 6 0 := ⟨RX4, TX4, 16, tyX4, rfl, tgX4, tyX4_ok, nmX4, rfl, by decide, rfl, TG_t1 169 (by decide +kernel) rfl, rfl, fun _ => by decide +kernel⟩
theorem fl_X4_68 : FL RX4 68 2 1 0 := ⟨RX2, TX2, 3, tyX2, rfl, tgX2, tyX2_ok, nmX2, rfl, by decide, rfl, TG_t1 49 (by decide +kernel) rfl, rfl, fun _ => by decide +kernel⟩
theorem fl_X4_71 : FL RX4 71 4 9 0 := ⟨RX4, TX4, 16, tyX4, rfl, tgX4, tyX4_ok, nmX4, rfl, by decide, rfl, TG_t1 177 (by decide +kernel) rfl, rfl, fun _ => by decide +kernel⟩
theorem fl_X4_74 : FL RX4 74 4 12 0 := ⟨RX4, TX4, 16, tyX4, rfl, tgX4, tyX4_ok, nmX4, rfl, by decide, rfl, TG_t1 185 (by decide +kernel) rfl, rfl, fun _ => by decide +kernel⟩
theorem fl_X4_77 : FL RX4 77 4 14 0 := ⟨RX4, TX4, 16, tyX4, rfl, tgX4, tyX4_ok, nmX4, rfl, by decide, rfl, TG_t1 194 (by decide +kernel) rfl, rfl, fun _ => by decide +kernel⟩
theorem fl_X4_80 : FL RX4 80 9 0 1 := ⟨RX9, TX9, 6, tyX9, rfl, tgX9, tyX9_ok, nmX9, rfl, by decide, rfl, TG_t1 72 (by decide +kernel) rfl, rfl, fun _ => by decide +kernel⟩
theorem fl_X4_84 : FL RX4 84 0 0 1 := ⟨RX0, TX0, 8, tyX0, rfl, tgX0, tyX0_ok, nmX0, rfl, by decide, rfl, TG_t1 109 (by decide +kernel) rfl, rfl, fun _ => by decide +kernel⟩
theorem fl_X4_85 : FL RX4 85 0 2 0 := ⟨RX0, TX0, 8, tyX0, rfl, tgX0, tyX0_ok, nmX0, rfl, by decide, rfl, TG_t1 114 (by decide +kernel) rfl, rfl, fun _ => by decide +kernel⟩
theorem mm_X4_92 : Cond.methodLink RX4 92 Lib.Math.min.name ∈ TG := TG_t4 164 (by decide +kernel) rfl
theorem mm_X4_97 : Cond.methodLink RX4 97 Lib.Math.max.name ∈ TG := TG_t4 165 (by decide +kernel) rfl
theorem fl_X4_100 : FL RX4 100 0 6 0 := ⟨RX0, TX0, 8, tyX0, rfl, tgX0, tyX0_ok, nmX0, rfl, by decide, rfl, TG_t1 126 (by decide +kernel) rfl, rfl, fun _ => by decide +kernel⟩
theorem fl_X4_103 : FL RX4 103 0 5 2 := ⟨RX0, TX0, 8, tyX0, rfl, tgX0, tyX0_ok, nmX0, rfl, by decide, rfl, TG_t1 122 (by decide +kernel) rfl, rfl, fun z => absurd rfl z⟩
theorem fl_X4_106 : FL RX4 106 9 2 0 := ⟨RX9, TX9, 6, tyX9, rfl, tgX9, tyX9_ok, nmX9, rfl, by decide, rfl, TG_t1 79 (by decide +kernel) rfl, rfl, fun _ => by decide +kernel⟩
theorem fl_X4_109 : FL RX4 109 9 3 0 := ⟨RX9, TX9, 6, tyX9, rfl, tgX9, tyX9_ok, nmX9, rfl, by decide, rfl, TG_t1 83 (by decide +kernel) rfl, rfl, fun _ => by decide +kernel⟩
theorem fl_X5_9 : FL RX5 9 5 0 2 := ⟨RX5, TX5, 3, tyX5, rfl, tgX5, tyX5_ok, nmX5, rfl, by decide, rfl, TG_t2 123 (by decide +kernel) rfl, rfl, fun z => absurd rfl z⟩
theorem fl_X5_20 : FL RX5 20 5 1 2 := ⟨RX5, TX5, 3, tyX5, rfl, tgX5, tyX5_ok, nmX5, rfl, by decide, rfl, TG_t2 124 (by decide +kernel) rfl, rfl, fun z => absurd rfl z⟩
theorem fl_X5_29 : FL RX5 29 5 2 0 := ⟨RX5, TX5, 3, tyX5, rfl, tgX5, tyX5_ok, nmX5, rfl, by decide, rfl, TG_t2 125 (by decide +kernel) rfl, rfl, fun _ => by decide +kernel⟩
theorem fl_X5_50 : FL RX5 50 8 8 2 := ⟨RX8, TX8, 10, tyX8, rfl, tgX8, tyX8_ok, nmX8, rfl, by decide, rfl, TG_t2 77 (by decide +kernel) rfl, rfl, fun z => absurd rfl z⟩
theorem gs_X5_54 : Cond.fieldLink RX5 54 RX10 (nmW.getD 2 "") "LTeaJunction$Word;" ∈ TG := TG_t3 150 (by decide +kernel) rfl
theorem gs_X5_62 : Cond.fieldLink RX5 62 RX10 (nmW.getD 4 "") "LTeaJunction$Word;" ∈ TG := TG_t3 192 (by decide +kernel) rfl
theorem gs_X5_68 : Cond.fieldLink RX5 68 RX10 (nmW.getD 9 "") "LTeaJunction$Word;" ∈ TG := TG_t3 217 (by decide +kernel) rfl
theorem eo_X5_74 : Cond.fieldLink RX5 74 RX10 "once" "I" ∈ TG := TG_t9 45 (by decide +kernel) rfl
theorem gs_X5_84 : Cond.fieldLink RX5 84 RX10 (nmW.getD 18 "") "LTeaJunction$Word;" ∈ TG := TG_t4 4 (by decide +kernel) rfl
theorem gs_X5_90 : Cond.fieldLink RX5 90 RX10 (nmW.getD 19 "") "LTeaJunction$Word;" ∈ TG := TG_t4 10 (by decide +kernel) rfl
theorem fl_X5_93 : FL RX5 93 4 8 2 := ⟨RX4, TX4, 16, tyX4, rfl, tgX4, tyX4_ok, nmX4, rfl, by decide, rfl, TG_t1 175 (by decide +kernel) rfl, rfl, fun z => absurd rfl z⟩
theorem gs_X5_109 : Cond.fieldLink RX5 109 RX10 (nmW.getD 0 "") "LTeaJunction$Word;" ∈ TG := TG_t4 67 (by decide +kernel) rfl
theorem fl_X5_116 : FL RX5 116 4 0 0 := ⟨RX4, TX4, 16, tyX4, rfl, tgX4, tyX4_ok, nmX4, rfl, by decide, rfl, TG_t1 151 (by decide +kernel) rfl, rfl, fun _ => by decide +kernel⟩
theorem gs_X5_119 : Cond.fieldLink RX5 119 RX10 (nmW.getD 1 "") "LTeaJunction$Word;" ∈ TG := TG_t4 69 (by decide +kernel) rfl
theorem fl_X5_126 : FL RX5 126 4 1 0 := ⟨RX4, TX4, 16, tyX4, rfl, tgX4, tyX4_ok, nmX4, rfl, by decide, rfl, TG_t1 156 (by decide +kernel) rfl, rfl, fun _ => by decide +kernel⟩
theorem gs_X5_129 : Cond.fieldLink RX5 129 RX10 (nmW.getD 13 "") "LTeaJunction$Word;" ∈ TG := TG_t4 71 (by decide +kernel) rfl
theorem fl_X5_132 : FL RX5 132 4 2 0 := ⟨RX4, TX4, 16, tyX4, rfl, tgX4, tyX4_ok, nmX4, rfl, by decide, rfl, TG_t1 159 (by decide +kernel) rfl, rfl, fun _ => by decide +kernel⟩
theorem gs_X5_135 : Cond.fieldLink RX5 135 RX10 (nmW.getD 14 "") "LTeaJunction$Word;" ∈ TG := TG_t4 73 (by decide +kernel) rfl
theorem fl_X5_138 : FL RX5 138 4 3 0 := ⟨RX4, TX4, 16, tyX4, rfl, tgX4, tyX4_ok, nmX4, rfl, by decide, rfl, TG_t1 161 (by decide +kernel) rfl, rfl, fun _ => by decide +kernel⟩
theorem gs_X5_141 : Cond.fieldLink RX5 141 RX10 (nmW.getD 15 "") "LTeaJunction$Word;" ∈ TG := TG_t4 75 (by decide +kernel) rfl
theorem fl_X5_144 : FL RX5 144 4 4 0 := ⟨RX4, TX4, 16, tyX4, rfl, tgX4, tyX4_ok, nmX4, rfl, by decide, rfl, TG_t1 164 (by decide +kernel) rfl, rfl, fun _ => by decide +kernel⟩
theorem gs_X5_147 : Cond.fieldLink RX5 147 RX10 (nmW.getD 16 "") "LTeaJunction$Word;" ∈ TG := TG_t4 77 (by decide +kernel) rfl
theorem fl_X5_150 : FL RX5 150 4 5 0 := ⟨RX4, TX4, 16, tyX4, rfl, tgX4, tyX4_ok, nmX4, rfl, by decide, rfl, TG_t1 167 (by decide +kernel) rfl, rfl, fun _ => by decide +kernel⟩
theorem fl_X5_153 : FL RX5 153 4 6 0 := ⟨RX4, TX4, 16, tyX4, rfl, tgX4, tyX4_ok, nmX4, rfl, by decide, rfl, TG_t1 170 (by decide +kernel) rfl, rfl, fun _ => by decide +kernel⟩
theorem fl_X5_156 : FL RX5 156 4 7 2 := ⟨RX4, TX4, 16, tyX4, rfl, tgX4, tyX4_ok, nmX4, rfl, by decide, rfl, TG_t1 172 (by decide +kernel) rfl, rfl, fun z => absurd rfl z⟩
theorem fl_X5_160 : FL RX5 160 4 9 0 := ⟨RX4, TX4, 16, tyX4, rfl, tgX4, tyX4_ok, nmX4, rfl, by decide, rfl, TG_t1 178 (by decide +kernel) rfl, rfl, fun _ => by decide +kernel⟩
theorem fl_X5_163 : FL RX5 163 4 10 2 := ⟨RX4, TX4, 16, tyX4, rfl, tgX4, tyX4_ok, nmX4, rfl, by decide, rfl, TG_t1 181 (by decide +kernel) rfl, rfl, fun z => absurd rfl z⟩
theorem gs_X5_171 : Cond.fieldLink RX5 171 RX10 (nmW.getD 3 "") "LTeaJunction$Word;" ∈ TG := TG_t3 181 (by decide +kernel) rfl
theorem fl_X5_174 : FL RX5 174 4 11 2 := ⟨RX4, TX4, 16, tyX4, rfl, tgX4, tyX4_ok, nmX4, rfl, by decide, rfl, TG_t1 183 (by decide +kernel) rfl, rfl, fun z => absurd rfl z⟩
theorem fl_X5_177 : FL RX5 177 4 12 0 := ⟨RX4, TX4, 16, tyX4, rfl, tgX4, tyX4_ok, nmX4, rfl, by decide, rfl, TG_t1 186 (by decide +kernel) rfl, rfl, fun _ => by decide +kernel⟩
theorem fl_X5_180 : FL RX5 180 4 13 2 := ⟨RX4, TX4, 16, tyX4, rfl, tgX4, tyX4_ok, nmX4, rfl, by decide, rfl, TG_t1 192 (by decide +kernel) rfl, rfl, fun z => absurd rfl z⟩
theorem fl_X5_184 : FL RX5 184 9 0 1 := ⟨RX9, TX9, 6, tyX9, rfl, tgX9, tyX9_ok, nmX9, rfl, by decide, rfl, TG_t1 73 (by decide +kernel) rfl, rfl, fun _ => by decide +kernel⟩
theorem gs_X5_190 : Cond.fieldLink RX5 190 RX10 (nmW.getD 24 "") "LTeaJunction$Word;" ∈ TG := TG_t3 198 (by decide +kernel) rfl
theorem gs_X5_193 : Cond.fieldLink RX5 193 RX10 (nmW.getD 25 "") "LTeaJunction$Word;" ∈ TG := TG_t3 200 (by decide +kernel) rfl
theorem gs_X5_196 : Cond.fieldLink RX5 196 RX10 (nmW.getD 26 "") "LTeaJunction$Word;" ∈ TG := TG_t3 202 (by decide +kernel) rfl
theorem fl_X5_203 : FL RX5 203 9 1 0 := ⟨RX9, TX9, 6, tyX9, rfl, tgX9, tyX9_ok, nmX9, rfl, by decide, rfl, TG_t1 75 (by decide +kernel) rfl, rfl, fun _ => by decide +kernel⟩
theorem gs_X5_206 : Cond.fieldLink RX5 206 RX10 (nmW.getD 5 "") "LTeaJunction$Word;" ∈ TG := TG_t3 209 (by decide +kernel) rfl
theorem fl_X5_209 : FL RX5 209 9 2 0 := ⟨RX9, TX9, 6, tyX9, rfl, tgX9, tyX9_ok, nmX9, rfl, by decide, rfl, TG_t1 78 (by decide +kernel) rfl, rfl, fun _ => by decide +kernel⟩
theorem gs_X5_212 : Cond.fieldLink RX5 212 RX10 (nmW.getD 6 "") "LTeaJunction$Word;" ∈ TG := TG_t3 211 (by decide +kernel) rfl
theorem fl_X5_215 : FL RX5 215 9 3 0 := ⟨RX9, TX9, 6, tyX9, rfl, tgX9, tyX9_ok, nmX9, rfl, by decide, rfl, TG_t1 82 (by decide +kernel) rfl, rfl, fun _ => by decide +kernel⟩
theorem gs_X5_218 : Cond.fieldLink RX5 218 RX10 (nmW.getD 7 "") "LTeaJunction$Word;" ∈ TG := TG_t3 213 (by decide +kernel) rfl
theorem fl_X5_221 : FL RX5 221 9 4 0 := ⟨RX9, TX9, 6, tyX9, rfl, tgX9, tyX9_ok, nmX9, rfl, by decide, rfl, TG_t1 86 (by decide +kernel) rfl, rfl, fun _ => by decide +kernel⟩
theorem gs_X5_224 : Cond.fieldLink RX5 224 RX10 (nmW.getD 8 "") "LTeaJunction$Word;" ∈ TG := TG_t3 215 (by decide +kernel) rfl
theorem fl_X5_227 : FL RX5 227 9 5 0 := ⟨RX9, TX9, 6, tyX9, rfl, tgX9, tyX9_ok, nmX9, rfl, by decide, rfl, TG_t1 88 (by decide +kernel) rfl, rfl, fun _ => by decide +kernel⟩
theorem fl_X5_230 : FL RX5 230 4 14 0 := ⟨RX4, TX4, 16, tyX4, rfl, tgX4, tyX4_ok, nmX4, rfl, by decide, rfl, TG_t1 197 (by decide +kernel) rfl, rfl, fun _ => by decide +kernel⟩
theorem fl_X5_233 : FL RX5 233 4 15 2 := ⟨RX4, TX4, 16, tyX4, rfl, tgX4, tyX4_ok, nmX4, rfl, by decide, rfl, TG_t1 202 (by decide +kernel) rfl, rfl, fun z => absurd rfl z⟩
theorem fl_X5_237 : FL RX5 237 0 0 1 := ⟨RX0, TX0, 8, tyX0, rfl, tgX0, tyX0_ok, nmX0, rfl, by decide, rfl, TG_t1 110 (by decide +kernel) rfl, rfl, fun _ => by decide +kernel⟩
theorem gs_X5_240 : Cond.fieldLink RX5 240 RX10 (nmW.getD 27 "") "LTeaJunction$Word;" ∈ TG := TG_t3 223 (by decide +kernel) rfl
theorem gs_X5_243 : Cond.fieldLink RX5 243 RX10 (nmW.getD 28 "") "LTeaJunction$Word;" ∈ TG := TG_t3 225 (by decide +kernel) rfl
theorem gs_X5_246 : Cond.fieldLink RX5 246 RX10 (nmW.getD 29 "") "LTeaJunction$Word;" ∈ TG := TG_t3 227 (by decide +kernel) rfl
theorem fl_X5_249 : FL RX5 249 0 1 0 := ⟨RX0, TX0, 8, tyX0, rfl, tgX0, tyX0_ok, nmX0, rfl, by decide, rfl, TG_t1 113 (by decide +kernel) rfl, rfl, fun _ => by decide +kernel⟩
theorem fl_X5_252 : FL RX5 252 8 5 1 := ⟨RX8, TX8, 10, tyX8, rfl, tgX8, tyX8_ok, nmX8, rfl, by decide, rfl, TG_t2 72 (by decide +kernel) rfl, rfl, fun _ => by decide +kernel⟩
theorem fl_X5_263 : FL RX5 263 0 2 0 := ⟨RX0, TX0, 8, tyX0, rfl, tgX0, tyX0_ok, nmX0, rfl, by decide, rfl, TG_t1 116 (by decide +kernel) rfl, rfl, fun _ => by decide +kernel⟩
theorem gs_X5_266 : Cond.fieldLink RX5 266 RX10 (nmW.getD 10 "") "LTeaJunction$Word;" ∈ TG := TG_t3 234 (by decide +kernel) rfl
theorem fl_X5_269 : FL RX5 269 0 3 0 := ⟨RX0, TX0, 8, tyX0, rfl, tgX0, tyX0_ok, nmX0, rfl, by decide, rfl, TG_t1 118 (by decide +kernel) rfl, rfl, fun _ => by decide +kernel⟩
theorem gs_X5_272 : Cond.fieldLink RX5 272 RX10 (nmW.getD 11 "") "LTeaJunction$Word;" ∈ TG := TG_t3 236 (by decide +kernel) rfl
theorem fl_X5_275 : FL RX5 275 0 4 0 := ⟨RX0, TX0, 8, tyX0, rfl, tgX0, tyX0_ok, nmX0, rfl, by decide, rfl, TG_t1 120 (by decide +kernel) rfl, rfl, fun _ => by decide +kernel⟩
theorem gs_X5_278 : Cond.fieldLink RX5 278 RX10 (nmW.getD 12 "") "LTeaJunction$Word;" ∈ TG := TG_t3 238 (by decide +kernel) rfl
theorem fl_X5_285 : FL RX5 285 0 6 0 := ⟨RX0, TX0, 8, tyX0, rfl, tgX0, tyX0_ok, nmX0, rfl, by decide, rfl, TG_t1 125 (by decide +kernel) rfl, rfl, fun _ => by decide +kernel⟩
theorem fl_X5_288 : FL RX5 288 0 7 0 := ⟨RX0, TX0, 8, tyX0, rfl, tgX0, tyX0_ok, nmX0, rfl, by decide, rfl, TG_t1 130 (by decide +kernel) rfl, rfl, fun _ => by decide +kernel⟩
theorem fl_X5_291 : FL RX5 291 8 4 0 := ⟨RX8, TX8, 10, tyX8, rfl, tgX8, tyX8_ok, nmX8, rfl, by decide, rfl, TG_t2 69 (by decide +kernel) rfl, rfl, fun _ => by decide +kernel⟩
theorem fl_X5_298 : FL RX5 298 0 5 2 := ⟨RX0, TX0, 8, tyX0, rfl, tgX0, tyX0_ok, nmX0, rfl, by decide, rfl, TG_t1 123 (by decide +kernel) rfl, rfl, fun z => absurd rfl z⟩
theorem fl_X6_9 : FL RX6 9 6 8 2 := ⟨RX6, TX6, 17, tyX6, rfl, tgX6, tyX6_ok, nmX6, rfl, by decide, rfl, TG_t2 171 (by decide +kernel) rfl, rfl, fun z => absurd rfl z⟩
theorem fl_X6_15 : FL RX6 15 6 9 2 := ⟨RX6, TX6, 17, tyX6, rfl, tgX6, tyX6_ok, nmX6, rfl, by decide, rfl, TG_t2 172 (by decide +kernel) rfl, rfl, fun z => absurd rfl z⟩
theorem fl_X6_18 : FL RX6 18 6 10 2 := ⟨RX6, TX6, 17, tyX6, rfl, tgX6, tyX6_ok, nmX6, rfl, by decide, rfl, TG_t2 174 (by decide +kernel) rfl, rfl, fun z => absurd rfl z⟩
theorem fl_X6_21 : FL RX6 21 6 11 2 := ⟨RX6, TX6, 17, tyX6, rfl, tgX6, tyX6_ok, nmX6, rfl, by decide, rfl, TG_t2 176 (by decide +kernel) rfl, rfl, fun z => absurd rfl z⟩
theorem fl_X6_24 : FL RX6 24 6 12 2 := ⟨RX6, TX6, 17, tyX6, rfl, tgX6, tyX6_ok, nmX6, rfl, by decide, rfl, TG_t2 178 (by decide +kernel) rfl, rfl, fun z => absurd rfl z⟩
theorem fl_X6_27 : FL RX6 27 6 13 2 := ⟨RX6, TX6, 17, tyX6, rfl, tgX6, tyX6_ok, nmX6, rfl, by decide, rfl, TG_t2 180 (by decide +kernel) rfl, rfl, fun z => absurd rfl z⟩
theorem fl_X6_30 : FL RX6 30 6 14 2 := ⟨RX6, TX6, 17, tyX6, rfl, tgX6, tyX6_ok, nmX6, rfl, by decide, rfl, TG_t2 182 (by decide +kernel) rfl, rfl, fun z => absurd rfl z⟩
theorem fl_X6_33 : FL RX6 33 6 0 2 := ⟨RX6, TX6, 17, tyX6, rfl, tgX6, tyX6_ok, nmX6, rfl, by decide, rfl, TG_t2 157 (by decide +kernel) rfl, rfl, fun z => absurd rfl z⟩
theorem fl_X6_37 : FL RX6 37 6 1 2 := ⟨RX6, TX6, 17, tyX6, rfl, tgX6, tyX6_ok, nmX6, rfl, by decide, rfl, TG_t2 158 (by decide +kernel) rfl, rfl, fun z => absurd rfl z⟩
theorem fl_X6_41 : FL RX6 41 6 2 0 := ⟨RX6, TX6, 17, tyX6, rfl, tgX6, tyX6_ok, nmX6, rfl, by decide, rfl, TG_t2 159 (by decide +kernel) rfl, rfl, fun _ => by decide +kernel⟩
theorem fl_X6_45 : FL RX6 45 6 3 0 := ⟨RX6, TX6, 17, tyX6, rfl, tgX6, tyX6_ok, nmX6, rfl, by decide, rfl, TG_t2 161 (by decide +kernel) rfl, rfl, fun _ => by decide +kernel⟩
theorem fl_X6_48 : FL RX6 48 6 4 0 := ⟨RX6, TX6, 17, tyX6, rfl, tgX6, tyX6_ok, nmX6, rfl, by decide, rfl, TG_t2 163 (by decide +kernel) rfl, rfl, fun _ => by decide +kernel⟩
theorem fl_X6_51 : FL RX6 51 6 5 0 := ⟨RX6, TX6, 17, tyX6, rfl, tgX6, tyX6_ok, nmX6, rfl, by decide, rfl, TG_t2 165 (by decide +kernel) rfl, rfl, fun _ => by decide +kernel⟩
theorem fl_X6_54 : FL RX6 54 6 6 0 := ⟨RX6, TX6, 17, tyX6, rfl, tgX6, tyX6_ok, nmX6, rfl, by decide, rfl, TG_t2 167 (by decide +kernel) rfl, rfl, fun _ => by decide +kernel⟩
theorem fl_X6_57 : FL RX6 57 6 7 0 := ⟨RX6, TX6, 17, tyX6, rfl, tgX6, tyX6_ok, nmX6, rfl, by decide, rfl, TG_t2 169 (by decide +kernel) rfl, rfl, fun _ => by decide +kernel⟩
theorem fl_X6_63 : FL RX6 63 4 0 0 := ⟨RX4, TX4, 16, tyX4, rfl, tgX4, tyX4_ok, nmX4, rfl, by decide, rfl, TG_t1 150 (by decide +kernel) rfl, rfl, fun _ => by decide +kernel⟩
theorem fl_X6_76 : FL RX6 76 4 14 0 := ⟨RX4, TX4, 16, tyX4, rfl, tgX4, tyX4_ok, nmX4, rfl, by decide, rfl, TG_t1 195 (by decide +kernel) rfl, rfl, fun _ => by decide +kernel⟩
theorem fl_X6_86 : FL RX6 86 7 0 0 := ⟨RX7, TX7, 12, tyX7, rfl, tgX7, tyX7_ok, nmX7, rfl, by decide, rfl, TG_t2 3 (by decide +kernel) rfl, rfl, fun _ => by decide +kernel⟩
theorem fl_X6_91 : FL RX6 91 6 15 0 := ⟨RX6, TX6, 17, tyX6, rfl, tgX6, tyX6_ok, nmX6, rfl, by decide, rfl, TG_t2 183 (by decide +kernel) rfl, rfl, fun _ => by decide +kernel⟩
theorem fl_X6_94 : FL RX6 94 6 16 0 := ⟨RX6, TX6, 17, tyX6, rfl, tgX6, tyX6_ok, nmX6, rfl, by decide, rfl, TG_t2 185 (by decide +kernel) rfl, rfl, fun _ => by decide +kernel⟩
theorem fl_X6_97 : FL RX6 97 7 2 0 := ⟨RX7, TX7, 12, tyX7, rfl, tgX7, tyX7_ok, nmX7, rfl, by decide, rfl, TG_t2 9 (by decide +kernel) rfl, rfl, fun _ => by decide +kernel⟩
theorem fl_X6_104 : FL RX6 104 4 15 2 := ⟨RX4, TX4, 16, tyX4, rfl, tgX4, tyX4_ok, nmX4, rfl, by decide, rfl, TG_t1 200 (by decide +kernel) rfl, rfl, fun z => absurd rfl z⟩
theorem fl_X6_108 : FL RX6 108 0 1 0 := ⟨RX0, TX0, 8, tyX0, rfl, tgX0, tyX0_ok, nmX0, rfl, by decide, rfl, TG_t1 111 (by decide +kernel) rfl, rfl, fun _ => by decide +kernel⟩
theorem fl_X6_113 : FL RX6 113 7 1 0 := ⟨RX7, TX7, 12, tyX7, rfl, tgX7, tyX7_ok, nmX7, rfl, by decide, rfl, TG_t2 6 (by decide +kernel) rfl, rfl, fun _ => by decide +kernel⟩
theorem mm_X6_119 : Cond.methodLink RX6 119 Lib.Math.min.name ∈ TG := TG_t5 18 (by decide +kernel) rfl
theorem fl_X6_124 : FL RX6 124 7 3 0 := ⟨RX7, TX7, 12, tyX7, rfl, tgX7, tyX7_ok, nmX7, rfl, by decide, rfl, TG_t2 12 (by decide +kernel) rfl, rfl, fun _ => by decide +kernel⟩
theorem fl_X6_141 : FL RX6 141 0 6 0 := ⟨RX0, TX0, 8, tyX0, rfl, tgX0, tyX0_ok, nmX0, rfl, by decide, rfl, TG_t1 127 (by decide +kernel) rfl, rfl, fun _ => by decide +kernel⟩
theorem fl_X6_144 : FL RX6 144 4 8 2 := ⟨RX4, TX4, 16, tyX4, rfl, tgX4, tyX4_ok, nmX4, rfl, by decide, rfl, TG_t1 176 (by decide +kernel) rfl, rfl, fun z => absurd rfl z⟩
theorem fl_X6_157 : FL RX6 157 4 3 0 := ⟨RX4, TX4, 16, tyX4, rfl, tgX4, tyX4_ok, nmX4, rfl, by decide, rfl, TG_t1 162 (by decide +kernel) rfl, rfl, fun _ => by decide +kernel⟩
theorem fl_X6_163 : FL RX6 163 0 7 0 := ⟨RX0, TX0, 8, tyX0, rfl, tgX0, tyX0_ok, nmX0, rfl, by decide, rfl, TG_t1 131 (by decide +kernel) rfl, rfl, fun _ => by decide +kernel⟩
theorem fl_X6_166 : FL RX6 166 4 13 2 := ⟨RX4, TX4, 16, tyX4, rfl, tgX4, tyX4_ok, nmX4, rfl, by decide, rfl, TG_t1 193 (by decide +kernel) rfl, rfl, fun z => absurd rfl z⟩
theorem fl_X6_170 : FL RX6 170 9 2 0 := ⟨RX9, TX9, 6, tyX9, rfl, tgX9, tyX9_ok, nmX9, rfl, by decide, rfl, TG_t1 80 (by decide +kernel) rfl, rfl, fun _ => by decide +kernel⟩
theorem fl_X6_178 : FL RX6 178 0 5 2 := ⟨RX0, TX0, 8, tyX0, rfl, tgX0, tyX0_ok, nmX0, rfl, by decide, rfl, TG_t1 124 (by decide +kernel) rfl, rfl, fun z => absurd rfl z⟩
theorem mm_X6_184 : Cond.methodLink RX6 184 Lib.Math.max.name ∈ TG := TG_t5 32 (by decide +kernel) rfl
theorem fl_X6_187 : FL RX6 187 4 5 0 := ⟨RX4, TX4, 16, tyX4, rfl, tgX4, tyX4_ok, nmX4, rfl, by decide, rfl, TG_t1 168 (by decide +kernel) rfl, rfl, fun _ => by decide +kernel⟩
theorem fl_X6_193 : FL RX6 193 7 4 2 := ⟨RX7, TX7, 12, tyX7, rfl, tgX7, tyX7_ok, nmX7, rfl, by decide, rfl, TG_t2 16 (by decide +kernel) rfl, rfl, fun z => absurd rfl z⟩
theorem fl_X6_196 : FL RX6 196 4 4 0 := ⟨RX4, TX4, 16, tyX4, rfl, tgX4, tyX4_ok, nmX4, rfl, by decide, rfl, TG_t1 165 (by decide +kernel) rfl, rfl, fun _ => by decide +kernel⟩
theorem fl_X6_199 : FL RX6 199 9 1 0 := ⟨RX9, TX9, 6, tyX9, rfl, tgX9, tyX9_ok, nmX9, rfl, by decide, rfl, TG_t1 76 (by decide +kernel) rfl, rfl, fun _ => by decide +kernel⟩
theorem fl_X6_202 : FL RX6 202 9 5 0 := ⟨RX9, TX9, 6, tyX9, rfl, tgX9, tyX9_ok, nmX9, rfl, by decide, rfl, TG_t1 89 (by decide +kernel) rfl, rfl, fun _ => by decide +kernel⟩
theorem lk_X6_205 : Cond.constant RX6 205 1000000 ∈ TG := TG_t5 31 (by decide +kernel) rfl
theorem fl_X6_209 : FL RX6 209 4 12 0 := ⟨RX4, TX4, 16, tyX4, rfl, tgX4, tyX4_ok, nmX4, rfl, by decide, rfl, TG_t1 187 (by decide +kernel) rfl, rfl, fun _ => by decide +kernel⟩
theorem fl_X6_212 : FL RX6 212 9 3 0 := ⟨RX9, TX9, 6, tyX9, rfl, tgX9, tyX9_ok, nmX9, rfl, by decide, rfl, TG_t1 84 (by decide +kernel) rfl, rfl, fun _ => by decide +kernel⟩
theorem fl_X7_9 : FL RX7 9 7 4 2 := ⟨RX7, TX7, 12, tyX7, rfl, tgX7, tyX7_ok, nmX7, rfl, by decide, rfl, TG_t2 14 (by decide +kernel) rfl, rfl, fun z => absurd rfl z⟩
theorem fl_X7_15 : FL RX7 15 7 5 2 := ⟨RX7, TX7, 12, tyX7, rfl, tgX7, tyX7_ok, nmX7, rfl, by decide, rfl, TG_t2 17 (by decide +kernel) rfl, rfl, fun z => absurd rfl z⟩
theorem fl_X7_18 : FL RX7 18 7 7 2 := ⟨RX7, TX7, 12, tyX7, rfl, tgX7, tyX7_ok, nmX7, rfl, by decide, rfl, TG_t2 21 (by decide +kernel) rfl, rfl, fun z => absurd rfl z⟩
theorem fl_X7_21 : FL RX7 21 7 9 2 := ⟨RX7, TX7, 12, tyX7, rfl, tgX7, tyX7_ok, nmX7, rfl, by decide, rfl, TG_t2 25 (by decide +kernel) rfl, rfl, fun z => absurd rfl z⟩
theorem fl_X7_24 : FL RX7 24 7 0 0 := ⟨RX7, TX7, 12, tyX7, rfl, tgX7, tyX7_ok, nmX7, rfl, by decide, rfl, TG_t2 2 (by decide +kernel) rfl, rfl, fun _ => by decide +kernel⟩
theorem fl_X7_28 : FL RX7 28 4 1 0 := ⟨RX4, TX4, 16, tyX4, rfl, tgX4, tyX4_ok, nmX4, rfl, by decide, rfl, TG_t1 154 (by decide +kernel) rfl, rfl, fun _ => by decide +kernel⟩
theorem fl_X7_33 : FL RX7 33 7 1 0 := ⟨RX7, TX7, 12, tyX7, rfl, tgX7, tyX7_ok, nmX7, rfl, by decide, rfl, TG_t2 5 (by decide +kernel) rfl, rfl, fun _ => by decide +kernel⟩
theorem fl_X7_34 : FL RX7 34 7 2 0 := ⟨RX7, TX7, 12, tyX7, rfl, tgX7, tyX7_ok, nmX7, rfl, by decide, rfl, TG_t2 8 (by decide +kernel) rfl, rfl, fun _ => by decide +kernel⟩
theorem fl_X7_37 : FL RX7 37 4 2 0 := ⟨RX4, TX4, 16, tyX4, rfl, tgX4, tyX4_ok, nmX4, rfl, by decide, rfl, TG_t1 158 (by decide +kernel) rfl, rfl, fun _ => by decide +kernel⟩
theorem fl_X7_40 : FL RX7 40 7 3 0 := ⟨RX7, TX7, 12, tyX7, rfl, tgX7, tyX7_ok, nmX7, rfl, by decide, rfl, TG_t2 11 (by decide +kernel) rfl, rfl, fun _ => by decide +kernel⟩
theorem fl_X7_41 : FL RX7 41 4 12 0 := ⟨RX4, TX4, 16, tyX4, rfl, tgX4, tyX4_ok, nmX4, rfl, by decide, rfl, TG_t1 184 (by decide +kernel) rfl, rfl, fun _ => by decide +kernel⟩
theorem fl_X7_44 : FL RX7 44 4 13 2 := ⟨RX4, TX4, 16, tyX4, rfl, tgX4, tyX4_ok, nmX4, rfl, by decide, rfl, TG_t1 190 (by decide +kernel) rfl, rfl, fun z => absurd rfl z⟩
theorem fl_X7_48 : FL RX7 48 9 4 0 := ⟨RX9, TX9, 6, tyX9, rfl, tgX9, tyX9_ok, nmX9, rfl, by decide, rfl, TG_t1 85 (by decide +kernel) rfl, rfl, fun _ => by decide +kernel⟩
theorem fl_X7_52 : FL RX7 52 7 6 0 := ⟨RX7, TX7, 12, tyX7, rfl, tgX7, tyX7_ok, nmX7, rfl, by decide, rfl, TG_t2 19 (by decide +kernel) rfl, rfl, fun _ => by decide +kernel⟩
theorem fl_X7_55 : FL RX7 55 7 8 0 := ⟨RX7, TX7, 12, tyX7, rfl, tgX7, tyX7_ok, nmX7, rfl, by decide, rfl, TG_t2 23 (by decide +kernel) rfl, rfl, fun _ => by decide +kernel⟩
theorem fl_X7_58 : FL RX7 58 7 10 0 := ⟨RX7, TX7, 12, tyX7, rfl, tgX7, tyX7_ok, nmX7, rfl, by decide, rfl, TG_t2 27 (by decide +kernel) rfl, rfl, fun _ => by decide +kernel⟩
theorem mm_X7_61 : Cond.methodLink RX7 61 arraycopyName ∈ TG := TG_t4 133 (by decide +kernel) rfl
theorem fl_X7_75 : FL RX7 75 4 14 0 := ⟨RX4, TX4, 16, tyX4, rfl, tgX4, tyX4_ok, nmX4, rfl, by decide, rfl, TG_t1 196 (by decide +kernel) rfl, rfl, fun _ => by decide +kernel⟩
theorem fl_X7_86 : FL RX7 86 4 0 0 := ⟨RX4, TX4, 16, tyX4, rfl, tgX4, tyX4_ok, nmX4, rfl, by decide, rfl, TG_t1 152 (by decide +kernel) rfl, rfl, fun _ => by decide +kernel⟩
theorem fl_X8_9 : FL RX8 9 8 0 2 := ⟨RX8, TX8, 10, tyX8, rfl, tgX8, tyX8_ok, nmX8, rfl, by decide, rfl, TG_t2 62 (by decide +kernel) rfl, rfl, fun z => absurd rfl z⟩
theorem lk_X8_15 : Cond.constantLong RX8 15 255 ∈ TG := TG_t3 26 (by decide +kernel) rfl
theorem fl_X8_17 : FL RX8 17 8 1 0 := ⟨RX8, TX8, 10, tyX8, rfl, tgX8, tyX8_ok, nmX8, rfl, by decide, rfl, TG_t2 64 (by decide +kernel) rfl, rfl, fun _ => by decide +kernel⟩
theorem fl_X8_21 : FL RX8 21 8 9 0 := ⟨RX8, TX8, 10, tyX8, rfl, tgX8, tyX8_ok, nmX8, rfl, by decide, rfl, TG_t2 80 (by decide +kernel) rfl, rfl, fun _ => by decide +kernel⟩
theorem fl_X8_24 : FL RX8 24 8 3 0 := ⟨RX8, TX8, 10, tyX8, rfl, tgX8, tyX8_ok, nmX8, rfl, by decide, rfl, TG_t2 66 (by decide +kernel) rfl, rfl, fun _ => by decide +kernel⟩
theorem fl_X8_30 : FL RX8 30 8 4 0 := ⟨RX8, TX8, 10, tyX8, rfl, tgX8, tyX8_ok, nmX8, rfl, by decide, rfl, TG_t2 67 (by decide +kernel) rfl, rfl, fun _ => by decide +kernel⟩
theorem fl_X8_33 : FL RX8 33 8 2 0 := ⟨RX8, TX8, 10, tyX8, rfl, tgX8, tyX8_ok, nmX8, rfl, by decide, rfl, TG_t2 65 (by decide +kernel) rfl, rfl, fun _ => by decide +kernel⟩
theorem fl_X8_36 : FL RX8 36 8 8 2 := ⟨RX8, TX8, 10, tyX8, rfl, tgX8, tyX8_ok, nmX8, rfl, by decide, rfl, TG_t2 79 (by decide +kernel) rfl, rfl, fun z => absurd rfl z⟩
theorem fl_X8_40 : FL RX8 40 8 5 1 := ⟨RX8, TX8, 10, tyX8, rfl, tgX8, tyX8_ok, nmX8, rfl, by decide, rfl, TG_t2 71 (by decide +kernel) rfl, rfl, fun _ => by decide +kernel⟩
theorem fl_X8_50 : FL RX8 50 8 7 4 := ⟨RX8, TX8, 10, tyX8, rfl, tgX8, tyX8_ok, nmX8, rfl, by decide, rfl, TG_t2 75 (by decide +kernel) rfl, rfl, fun _ => by decide +kernel⟩
theorem lk_X8_62 : Cond.constantLong RX8 62 32 ∈ TG := TG_t3 48 (by decide +kernel) rfl
theorem eo_X8_68 : Cond.fieldLink RX8 68 RX10 "key" "J" ∈ TG := TG_t9 41 (by decide +kernel) rfl
theorem fl_X8_71 : FL RX8 71 8 6 0 := ⟨RX8, TX8, 10, tyX8, rfl, tgX8, tyX8_ok, nmX8, rfl, by decide, rfl, TG_t2 74 (by decide +kernel) rfl, rfl, fun _ => by decide +kernel⟩
theorem eo_X8_74 : Cond.fieldLink RX8 74 RX10 "once" "I" ∈ TG := TG_t9 44 (by decide +kernel) rfl
theorem fl_X11_10 : FL RX11 10 10 4 2 := ⟨RX11, TX11, 12, tyX11, rfl, tgX11, tyX11_ok, nmX11, rfl, by decide, rfl, TG_t2 225 (by decide +kernel) rfl, rfl, fun z => absurd rfl z⟩
theorem fl_X11_19 : FL RX11 19 10 6 2 := ⟨RX11, TX11, 12, tyX11, rfl, tgX11, tyX11_ok, nmX11, rfl, by decide, rfl, TG_t2 227 (by decide +kernel) rfl, rfl, fun z => absurd rfl z⟩
theorem fl_X11_23 : FL RX11 23 10 7 2 := ⟨RX11, TX11, 12, tyX11, rfl, tgX11, tyX11_ok, nmX11, rfl, by decide, rfl, TG_t2 228 (by decide +kernel) rfl, rfl, fun z => absurd rfl z⟩
theorem fl_X11_27 : FL RX11 27 10 9 2 := ⟨RX11, TX11, 12, tyX11, rfl, tgX11, tyX11_ok, nmX11, rfl, by decide, rfl, TG_t2 230 (by decide +kernel) rfl, rfl, fun z => absurd rfl z⟩
theorem fl_X11_31 : FL RX11 31 10 11 2 := ⟨RX11, TX11, 12, tyX11, rfl, tgX11, tyX11_ok, nmX11, rfl, by decide, rfl, TG_t2 232 (by decide +kernel) rfl, rfl, fun z => absurd rfl z⟩
theorem fl_X11_41 : FL RX11 41 10 0 2 := ⟨RX11, TX11, 12, tyX11, rfl, tgX11, tyX11_ok, nmX11, rfl, by decide, rfl, TG_t2 221 (by decide +kernel) rfl, rfl, fun z => absurd rfl z⟩
theorem fl_X11_50 : FL RX11 50 10 1 2 := ⟨RX11, TX11, 12, tyX11, rfl, tgX11, tyX11_ok, nmX11, rfl, by decide, rfl, TG_t2 222 (by decide +kernel) rfl, rfl, fun z => absurd rfl z⟩
theorem fl_X11_57 : FL RX11 57 10 2 2 := ⟨RX11, TX11, 12, tyX11, rfl, tgX11, tyX11_ok, nmX11, rfl, by decide, rfl, TG_t2 223 (by decide +kernel) rfl, rfl, fun z => absurd rfl z⟩
theorem fl_X11_61 : FL RX11 61 10 3 2 := ⟨RX11, TX11, 12, tyX11, rfl, tgX11, tyX11_ok, nmX11, rfl, by decide, rfl, TG_t2 224 (by decide +kernel) rfl, rfl, fun z => absurd rfl z⟩
theorem fl_X11_64 : FL RX11 64 10 5 2 := ⟨RX11, TX11, 12, tyX11, rfl, tgX11, tyX11_ok, nmX11, rfl, by decide, rfl, TG_t2 226 (by decide +kernel) rfl, rfl, fun z => absurd rfl z⟩
theorem fl_X11_72 : FL RX11 72 10 8 2 := ⟨RX11, TX11, 12, tyX11, rfl, tgX11, tyX11_ok, nmX11, rfl, by decide, rfl, TG_t2 229 (by decide +kernel) rfl, rfl, fun z => absurd rfl z⟩
theorem fl_X11_80 : FL RX11 80 8 1 0 := ⟨RX8, TX8, 10, tyX8, rfl, tgX8, tyX8_ok, nmX8, rfl, by decide, rfl, TG_t2 63 (by decide +kernel) rfl, rfl, fun _ => by decide +kernel⟩
theorem fl_X11_91 : FL RX11 91 10 10 0 := ⟨RX11, TX11, 12, tyX11, rfl, tgX11, tyX11_ok, nmX11, rfl, by decide, rfl, TG_t2 231 (by decide +kernel) rfl, rfl, fun _ => by decide +kernel⟩
theorem fl_X11_94 : FL RX11 94 7 11 3 := ⟨RX7, TX7, 12, tyX7, rfl, tgX7, tyX7_ok, nmX7, rfl, by decide, rfl, TG_t2 29 (by decide +kernel) rfl, rfl, fun _ => by decide +kernel⟩
theorem fl_X11_99 : FL RX11 99 1 1 2 := ⟨RX1, TX1, 3, tyX1, rfl, tgX1, tyX1_ok, nmX1, rfl, by decide, rfl, TG_t2 141 (by decide +kernel) rfl, rfl, fun z => absurd rfl z⟩
theorem fl_X11_102 : FL RX11 102 1 2 0 := ⟨RX1, TX1, 3, tyX1, rfl, tgX1, tyX1_ok, nmX1, rfl, by decide, rfl, TG_t2 143 (by decide +kernel) rfl, rfl, fun _ => by decide +kernel⟩
theorem fl_X11_113 : FL RX11 113 4 13 2 := ⟨RX4, TX4, 16, tyX4, rfl, tgX4, tyX4_ok, nmX4, rfl, by decide, rfl, TG_t1 191 (by decide +kernel) rfl, rfl, fun z => absurd rfl z⟩
theorem fl_X11_117 : FL RX11 117 9 1 0 := ⟨RX9, TX9, 6, tyX9, rfl, tgX9, tyX9_ok, nmX9, rfl, by decide, rfl, TG_t1 74 (by decide +kernel) rfl, rfl, fun _ => by decide +kernel⟩
theorem fl_X11_122 : FL RX11 122 9 2 0 := ⟨RX9, TX9, 6, tyX9, rfl, tgX9, tyX9_ok, nmX9, rfl, by decide, rfl, TG_t1 77 (by decide +kernel) rfl, rfl, fun _ => by decide +kernel⟩
theorem fl_X11_125 : FL RX11 125 9 3 0 := ⟨RX9, TX9, 6, tyX9, rfl, tgX9, tyX9_ok, nmX9, rfl, by decide, rfl, TG_t1 81 (by decide +kernel) rfl, rfl, fun _ => by decide +kernel⟩
theorem fl_X11_128 : FL RX11 128 7 4 2 := ⟨RX7, TX7, 12, tyX7, rfl, tgX7, tyX7_ok, nmX7, rfl, by decide, rfl, TG_t2 15 (by decide +kernel) rfl, rfl, fun z => absurd rfl z⟩
theorem fl_X11_131 : FL RX11 131 9 5 0 := ⟨RX9, TX9, 6, tyX9, rfl, tgX9, tyX9_ok, nmX9, rfl, by decide, rfl, TG_t1 87 (by decide +kernel) rfl, rfl, fun _ => by decide +kernel⟩
theorem fl_X11_137 : FL RX11 137 4 15 2 := ⟨RX4, TX4, 16, tyX4, rfl, tgX4, tyX4_ok, nmX4, rfl, by decide, rfl, TG_t1 201 (by decide +kernel) rfl, rfl, fun z => absurd rfl z⟩
theorem fl_X11_141 : FL RX11 141 0 1 0 := ⟨RX0, TX0, 8, tyX0, rfl, tgX0, tyX0_ok, nmX0, rfl, by decide, rfl, TG_t1 112 (by decide +kernel) rfl, rfl, fun _ => by decide +kernel⟩
theorem fl_X11_146 : FL RX11 146 0 2 0 := ⟨RX0, TX0, 8, tyX0, rfl, tgX0, tyX0_ok, nmX0, rfl, by decide, rfl, TG_t1 115 (by decide +kernel) rfl, rfl, fun _ => by decide +kernel⟩
theorem fl_X11_149 : FL RX11 149 0 3 0 := ⟨RX0, TX0, 8, tyX0, rfl, tgX0, tyX0_ok, nmX0, rfl, by decide, rfl, TG_t1 117 (by decide +kernel) rfl, rfl, fun _ => by decide +kernel⟩
theorem fl_X11_152 : FL RX11 152 0 4 0 := ⟨RX0, TX0, 8, tyX0, rfl, tgX0, tyX0_ok, nmX0, rfl, by decide, rfl, TG_t1 119 (by decide +kernel) rfl, rfl, fun _ => by decide +kernel⟩
theorem fl_X11_155 : FL RX11 155 0 7 0 := ⟨RX0, TX0, 8, tyX0, rfl, tgX0, tyX0_ok, nmX0, rfl, by decide, rfl, TG_t1 129 (by decide +kernel) rfl, rfl, fun _ => by decide +kernel⟩
theorem fl_X11_158 : FL RX11 158 7 0 0 := ⟨RX7, TX7, 12, tyX7, rfl, tgX7, tyX7_ok, nmX7, rfl, by decide, rfl, TG_t2 4 (by decide +kernel) rfl, rfl, fun _ => by decide +kernel⟩
theorem fl_X11_161 : FL RX11 161 7 2 0 := ⟨RX7, TX7, 12, tyX7, rfl, tgX7, tyX7_ok, nmX7, rfl, by decide, rfl, TG_t2 10 (by decide +kernel) rfl, rfl, fun _ => by decide +kernel⟩
theorem fl_X11_168 : FL RX11 168 7 1 0 := ⟨RX7, TX7, 12, tyX7, rfl, tgX7, tyX7_ok, nmX7, rfl, by decide, rfl, TG_t2 7 (by decide +kernel) rfl, rfl, fun _ => by decide +kernel⟩
theorem fl_X11_182 : FL RX11 182 7 6 0 := ⟨RX7, TX7, 12, tyX7, rfl, tgX7, tyX7_ok, nmX7, rfl, by decide, rfl, TG_t2 20 (by decide +kernel) rfl, rfl, fun _ => by decide +kernel⟩
theorem fl_X11_183 : FL RX11 183 7 5 2 := ⟨RX7, TX7, 12, tyX7, rfl, tgX7, tyX7_ok, nmX7, rfl, by decide, rfl, TG_t2 18 (by decide +kernel) rfl, rfl, fun z => absurd rfl z⟩
theorem fl_X11_197 : FL RX11 197 6 10 2 := ⟨RX6, TX6, 17, tyX6, rfl, tgX6, tyX6_ok, nmX6, rfl, by decide, rfl, TG_t2 175 (by decide +kernel) rfl, rfl, fun z => absurd rfl z⟩
theorem fl_X11_200 : FL RX11 200 6 11 2 := ⟨RX6, TX6, 17, tyX6, rfl, tgX6, tyX6_ok, nmX6, rfl, by decide, rfl, TG_t2 177 (by decide +kernel) rfl, rfl, fun z => absurd rfl z⟩
theorem fl_X11_203 : FL RX11 203 6 12 2 := ⟨RX6, TX6, 17, tyX6, rfl, tgX6, tyX6_ok, nmX6, rfl, by decide, rfl, TG_t2 179 (by decide +kernel) rfl, rfl, fun z => absurd rfl z⟩
theorem fl_X11_206 : FL RX11 206 6 13 2 := ⟨RX6, TX6, 17, tyX6, rfl, tgX6, tyX6_ok, nmX6, rfl, by decide, rfl, TG_t2 181 (by decide +kernel) rfl, rfl, fun z => absurd rfl z⟩
theorem fl_X11_209 : FL RX11 209 6 15 0 := ⟨RX6, TX6, 17, tyX6, rfl, tgX6, tyX6_ok, nmX6, rfl, by decide, rfl, TG_t2 184 (by decide +kernel) rfl, rfl, fun _ => by decide +kernel⟩
theorem lk_X11_221 : Cond.constant RX11 221 1000000 ∈ TG := TG_t5 72 (by decide +kernel) rfl
theorem fl_X11_229 : FL RX11 229 4 14 0 := ⟨RX4, TX4, 16, tyX4, rfl, tgX4, tyX4_ok, nmX4, rfl, by decide, rfl, TG_t1 198 (by decide +kernel) rfl, rfl, fun _ => by decide +kernel⟩
theorem lk_X11_236 : Cond.constantLong RX11 236 1000000 ∈ TG := TG_t5 89 (by decide +kernel) rfl
theorem fl_X11_255 : FL RX11 255 7 3 0 := ⟨RX7, TX7, 12, tyX7, rfl, tgX7, tyX7_ok, nmX7, rfl, by decide, rfl, TG_t2 13 (by decide +kernel) rfl, rfl, fun _ => by decide +kernel⟩
theorem fl_X11_261 : FL RX11 261 6 2 0 := ⟨RX6, TX6, 17, tyX6, rfl, tgX6, tyX6_ok, nmX6, rfl, by decide, rfl, TG_t2 160 (by decide +kernel) rfl, rfl, fun _ => by decide +kernel⟩
theorem fl_X11_267 : FL RX11 267 4 0 0 := ⟨RX4, TX4, 16, tyX4, rfl, tgX4, tyX4_ok, nmX4, rfl, by decide, rfl, TG_t1 153 (by decide +kernel) rfl, rfl, fun _ => by decide +kernel⟩
theorem fl_X11_282 : FL RX11 282 7 8 0 := ⟨RX7, TX7, 12, tyX7, rfl, tgX7, tyX7_ok, nmX7, rfl, by decide, rfl, TG_t2 24 (by decide +kernel) rfl, rfl, fun _ => by decide +kernel⟩
theorem fl_X11_285 : FL RX11 285 7 7 2 := ⟨RX7, TX7, 12, tyX7, rfl, tgX7, tyX7_ok, nmX7, rfl, by decide, rfl, TG_t2 22 (by decide +kernel) rfl, rfl, fun z => absurd rfl z⟩
theorem fl_X11_291 : FL RX11 291 7 10 0 := ⟨RX7, TX7, 12, tyX7, rfl, tgX7, tyX7_ok, nmX7, rfl, by decide, rfl, TG_t2 28 (by decide +kernel) rfl, rfl, fun _ => by decide +kernel⟩
theorem fl_X11_294 : FL RX11 294 7 9 2 := ⟨RX7, TX7, 12, tyX7, rfl, tgX7, tyX7_ok, nmX7, rfl, by decide, rfl, TG_t2 26 (by decide +kernel) rfl, rfl, fun z => absurd rfl z⟩
theorem lk_X11_297 : Cond.constantLong RX11 297 1103515245 ∈ TG := TG_t5 175 (by decide +kernel) rfl
theorem lk_X11_299 : Cond.constantLong RX11 299 12345 ∈ TG := TG_t5 176 (by decide +kernel) rfl
theorem lk_X11_301 : Cond.constantLong RX11 301 2147483648 ∈ TG := TG_t5 177 (by decide +kernel) rfl
theorem lk_X11_303 : Cond.constantLong RX11 303 65536 ∈ TG := TG_t5 178 (by decide +kernel) rfl
theorem lk_X11_305 : Cond.constantLong RX11 305 10 ∈ TG := TG_t5 179 (by decide +kernel) rfl
theorem fl_X11_310 : FL RX11 310 4 9 0 := ⟨RX4, TX4, 16, tyX4, rfl, tgX4, tyX4_ok, nmX4, rfl, by decide, rfl, TG_t1 179 (by decide +kernel) rfl, rfl, fun _ => by decide +kernel⟩
theorem fl_X11_313 : FL RX11 313 4 12 0 := ⟨RX4, TX4, 16, tyX4, rfl, tgX4, tyX4_ok, nmX4, rfl, by decide, rfl, TG_t1 188 (by decide +kernel) rfl, rfl, fun _ => by decide +kernel⟩
theorem mm_X11_320 : Cond.methodLink RX11 320 arraycopyName ∈ TG := TG_t4 186 (by decide +kernel) rfl
theorem fl_X11_326 : FL RX11 326 6 3 0 := ⟨RX6, TX6, 17, tyX6, rfl, tgX6, tyX6_ok, nmX6, rfl, by decide, rfl, TG_t2 162 (by decide +kernel) rfl, rfl, fun _ => by decide +kernel⟩
theorem fl_X11_329 : FL RX11 329 6 4 0 := ⟨RX6, TX6, 17, tyX6, rfl, tgX6, tyX6_ok, nmX6, rfl, by decide, rfl, TG_t2 164 (by decide +kernel) rfl, rfl, fun _ => by decide +kernel⟩
theorem fl_X11_332 : FL RX11 332 6 9 2 := ⟨RX6, TX6, 17, tyX6, rfl, tgX6, tyX6_ok, nmX6, rfl, by decide, rfl, TG_t2 173 (by decide +kernel) rfl, rfl, fun z => absurd rfl z⟩
theorem fl_X11_335 : FL RX11 335 0 6 0 := ⟨RX0, TX0, 8, tyX0, rfl, tgX0, tyX0_ok, nmX0, rfl, by decide, rfl, TG_t1 128 (by decide +kernel) rfl, rfl, fun _ => by decide +kernel⟩
theorem fl_X11_341 : FL RX11 341 4 7 2 := ⟨RX4, TX4, 16, tyX4, rfl, tgX4, tyX4_ok, nmX4, rfl, by decide, rfl, TG_t1 173 (by decide +kernel) rfl, rfl, fun z => absurd rfl z⟩
theorem fl_X11_344 : FL RX11 344 6 5 0 := ⟨RX6, TX6, 17, tyX6, rfl, tgX6, tyX6_ok, nmX6, rfl, by decide, rfl, TG_t2 166 (by decide +kernel) rfl, rfl, fun _ => by decide +kernel⟩
theorem fl_X11_347 : FL RX11 347 6 6 0 := ⟨RX6, TX6, 17, tyX6, rfl, tgX6, tyX6_ok, nmX6, rfl, by decide, rfl, TG_t2 168 (by decide +kernel) rfl, rfl, fun _ => by decide +kernel⟩
theorem fl_X11_350 : FL RX11 350 6 7 0 := ⟨RX6, TX6, 17, tyX6, rfl, tgX6, tyX6_ok, nmX6, rfl, by decide, rfl, TG_t2 170 (by decide +kernel) rfl, rfl, fun _ => by decide +kernel⟩
theorem fl_X12_7 : FL RX12 7 11 2 2 := ⟨RX12, TX12, 78, tyX12, rfl, tgX12, tyX12_ok, nmX12, rfl, by decide, rfl, TG_t6 47 (by decide +kernel) rfl, rfl, fun z => absurd rfl z⟩
theorem fl_X12_13 : FL RX12 13 11 10 2 := ⟨RX12, TX12, 78, tyX12, rfl, tgX12, tyX12_ok, nmX12, rfl, by decide, rfl, TG_t6 55 (by decide +kernel) rfl, rfl, fun z => absurd rfl z⟩
theorem fl_X12_16 : FL RX12 16 11 11 2 := ⟨RX12, TX12, 78, tyX12, rfl, tgX12, tyX12_ok, nmX12, rfl, by decide, rfl, TG_t6 56 (by decide +kernel) rfl, rfl, fun z => absurd rfl z⟩
theorem fl_X12_20 : FL RX12 20 11 12 2 := ⟨RX12, TX12, 78, tyX12, rfl, tgX12, tyX12_ok, nmX12, rfl, by decide, rfl, TG_t6 57 (by decide +kernel) rfl, rfl, fun z => absurd rfl z⟩
theorem fl_X12_23 : FL RX12 23 11 13 2 := ⟨RX12, TX12, 78, tyX12, rfl, tgX12, tyX12_ok, nmX12, rfl, by decide, rfl, TG_t6 58 (by decide +kernel) rfl, rfl, fun z => absurd rfl z⟩
theorem fl_X12_26 : FL RX12 26 11 14 2 := ⟨RX12, TX12, 78, tyX12, rfl, tgX12, tyX12_ok, nmX12, rfl, by decide, rfl, TG_t6 59 (by decide +kernel) rfl, rfl, fun z => absurd rfl z⟩
theorem fl_X12_29 : FL RX12 29 11 15 2 := ⟨RX12, TX12, 78, tyX12, rfl, tgX12, tyX12_ok, nmX12, rfl, by decide, rfl, TG_t6 60 (by decide +kernel) rfl, rfl, fun z => absurd rfl z⟩
theorem fl_X12_32 : FL RX12 32 11 16 2 := ⟨RX12, TX12, 78, tyX12, rfl, tgX12, tyX12_ok, nmX12, rfl, by decide, rfl, TG_t6 61 (by decide +kernel) rfl, rfl, fun z => absurd rfl z⟩
theorem fl_X12_35 : FL RX12 35 11 17 2 := ⟨RX12, TX12, 78, tyX12, rfl, tgX12, tyX12_ok, nmX12, rfl, by decide, rfl, TG_t6 62 (by decide +kernel) rfl, rfl, fun z => absurd rfl z⟩
theorem fl_X12_38 : FL RX12 38 11 18 2 := ⟨RX12, TX12, 78, tyX12, rfl, tgX12, tyX12_ok, nmX12, rfl, by decide, rfl, TG_t6 63 (by decide +kernel) rfl, rfl, fun z => absurd rfl z⟩
theorem fl_X12_41 : FL RX12 41 11 19 2 := ⟨RX12, TX12, 78, tyX12, rfl, tgX12, tyX12_ok, nmX12, rfl, by decide, rfl, TG_t6 64 (by decide +kernel) rfl, rfl, fun z => absurd rfl z⟩
theorem fl_X12_44 : FL RX12 44 11 20 2 := ⟨RX12, TX12, 78, tyX12, rfl, tgX12, tyX12_ok, nmX12, rfl, by decide, rfl, TG_t6 65 (by decide +kernel) rfl, rfl, fun z => absurd rfl z⟩
theorem fl_X12_47 : FL RX12 47 11 21 2 := ⟨RX12, TX12, 78, tyX12, rfl, tgX12, tyX12_ok, nmX12, rfl, by decide, rfl, TG_t6 66 (by decide +kernel) rfl, rfl, fun z => absurd rfl z⟩
theorem fl_X12_50 : FL RX12 50 11 22 2 := ⟨RX12, TX12, 78, tyX12, rfl, tgX12, tyX12_ok, nmX12, rfl, by decide, rfl, TG_t6 67 (by decide +kernel) rfl, rfl, fun z => absurd rfl z⟩
theorem fl_X12_53 : FL RX12 53 11 23 2 := ⟨RX12, TX12, 78, tyX12, rfl, tgX12, tyX12_ok, nmX12, rfl, by decide, rfl, TG_t6 68 (by decide +kernel) rfl, rfl, fun z => absurd rfl z⟩
theorem fl_X12_56 : FL RX12 56 11 24 2 := ⟨RX12, TX12, 78, tyX12, rfl, tgX12, tyX12_ok, nmX12, rfl, by decide, rfl, TG_t6 69 (by decide +kernel) rfl, rfl, fun z => absurd rfl z⟩
theorem fl_X12_59 : FL RX12 59 11 25 2 := ⟨RX12, TX12, 78, tyX12, rfl, tgX12, tyX12_ok, nmX12, rfl, by decide, rfl, TG_t6 70 (by decide +kernel) rfl, rfl, fun z => absurd rfl z⟩
theorem fl_X12_62 : FL RX12 62 11 26 2 := ⟨RX12, TX12, 78, tyX12, rfl, tgX12, tyX12_ok, nmX12, rfl, by decide, rfl, TG_t6 71 (by decide +kernel) rfl, rfl, fun z => absurd rfl z⟩
theorem fl_X12_65 : FL RX12 65 11 27 2 := ⟨RX12, TX12, 78, tyX12, rfl, tgX12, tyX12_ok, nmX12, rfl, by decide, rfl, TG_t6 72 (by decide +kernel) rfl, rfl, fun z => absurd rfl z⟩
theorem fl_X12_68 : FL RX12 68 11 28 2 := ⟨RX12, TX12, 78, tyX12, rfl, tgX12, tyX12_ok, nmX12, rfl, by decide, rfl, TG_t6 73 (by decide +kernel) rfl, rfl, fun z => absurd rfl z⟩
theorem fl_X12_71 : FL RX12 71 11 29 2 := ⟨RX12, TX12, 78, tyX12, rfl, tgX12, tyX12_ok, nmX12, rfl, by decide, rfl, TG_t6 74 (by decide +kernel) rfl, rfl, fun z => absurd rfl z⟩
theorem fl_X12_74 : FL RX12 74 11 32 2 := ⟨RX12, TX12, 78, tyX12, rfl, tgX12, tyX12_ok, nmX12, rfl, by decide, rfl, TG_t6 77 (by decide +kernel) rfl, rfl, fun z => absurd rfl z⟩
theorem fl_X12_77 : FL RX12 77 11 33 2 := ⟨RX12, TX12, 78, tyX12, rfl, tgX12, tyX12_ok, nmX12, rfl, by decide, rfl, TG_t6 78 (by decide +kernel) rfl, rfl, fun z => absurd rfl z⟩
theorem fl_X12_81 : FL RX12 81 11 34 2 := ⟨RX12, TX12, 78, tyX12, rfl, tgX12, tyX12_ok, nmX12, rfl, by decide, rfl, TG_t6 79 (by decide +kernel) rfl, rfl, fun z => absurd rfl z⟩
theorem fl_X12_84 : FL RX12 84 11 35 2 := ⟨RX12, TX12, 78, tyX12, rfl, tgX12, tyX12_ok, nmX12, rfl, by decide, rfl, TG_t6 80 (by decide +kernel) rfl, rfl, fun z => absurd rfl z⟩
theorem fl_X12_87 : FL RX12 87 11 36 2 := ⟨RX12, TX12, 78, tyX12, rfl, tgX12, tyX12_ok, nmX12, rfl, by decide, rfl, TG_t6 81 (by decide +kernel) rfl, rfl, fun z => absurd rfl z⟩
theorem fl_X12_90 : FL RX12 90 11 37 2 := ⟨RX12, TX12, 78, tyX12, rfl, tgX12, tyX12_ok, nmX12, rfl, by decide, rfl, TG_t6 82 (by decide +kernel) rfl, rfl, fun z => absurd rfl z⟩
theorem fl_X12_93 : FL RX12 93 11 38 2 := ⟨RX12, TX12, 78, tyX12, rfl, tgX12, tyX12_ok, nmX12, rfl, by decide, rfl, TG_t6 83 (by decide +kernel) rfl, rfl, fun z => absurd rfl z⟩
theorem fl_X12_96 : FL RX12 96 11 39 2 := ⟨RX12, TX12, 78, tyX12, rfl, tgX12, tyX12_ok, nmX12, rfl, by decide, rfl, TG_t6 84 (by decide +kernel) rfl, rfl, fun z => absurd rfl z⟩
theorem fl_X12_99 : FL RX12 99 11 40 2 := ⟨RX12, TX12, 78, tyX12, rfl, tgX12, tyX12_ok, nmX12, rfl, by decide, rfl, TG_t6 85 (by decide +kernel) rfl, rfl, fun z => absurd rfl z⟩
theorem fl_X12_102 : FL RX12 102 11 41 2 := ⟨RX12, TX12, 78, tyX12, rfl, tgX12, tyX12_ok, nmX12, rfl, by decide, rfl, TG_t6 86 (by decide +kernel) rfl, rfl, fun z => absurd rfl z⟩
theorem fl_X12_105 : FL RX12 105 11 42 2 := ⟨RX12, TX12, 78, tyX12, rfl, tgX12, tyX12_ok, nmX12, rfl, by decide, rfl, TG_t6 87 (by decide +kernel) rfl, rfl, fun z => absurd rfl z⟩
theorem fl_X12_108 : FL RX12 108 11 43 2 := ⟨RX12, TX12, 78, tyX12, rfl, tgX12, tyX12_ok, nmX12, rfl, by decide, rfl, TG_t6 88 (by decide +kernel) rfl, rfl, fun z => absurd rfl z⟩
theorem fl_X12_111 : FL RX12 111 11 45 2 := ⟨RX12, TX12, 78, tyX12, rfl, tgX12, tyX12_ok, nmX12, rfl, by decide, rfl, TG_t6 90 (by decide +kernel) rfl, rfl, fun z => absurd rfl z⟩
theorem fl_X12_114 : FL RX12 114 11 46 2 := ⟨RX12, TX12, 78, tyX12, rfl, tgX12, tyX12_ok, nmX12, rfl, by decide, rfl, TG_t6 91 (by decide +kernel) rfl, rfl, fun z => absurd rfl z⟩
theorem fl_X12_117 : FL RX12 117 11 47 2 := ⟨RX12, TX12, 78, tyX12, rfl, tgX12, tyX12_ok, nmX12, rfl, by decide, rfl, TG_t6 92 (by decide +kernel) rfl, rfl, fun z => absurd rfl z⟩
theorem fl_X12_120 : FL RX12 120 11 48 2 := ⟨RX12, TX12, 78, tyX12, rfl, tgX12, tyX12_ok, nmX12, rfl, by decide, rfl, TG_t6 93 (by decide +kernel) rfl, rfl, fun z => absurd rfl z⟩
theorem fl_X12_123 : FL RX12 123 11 49 2 := ⟨RX12, TX12, 78, tyX12, rfl, tgX12, tyX12_ok, nmX12, rfl, by decide, rfl, TG_t6 94 (by decide +kernel) rfl, rfl, fun z => absurd rfl z⟩
theorem fl_X12_126 : FL RX12 126 11 50 2 := ⟨RX12, TX12, 78, tyX12, rfl, tgX12, tyX12_ok, nmX12, rfl, by decide, rfl, TG_t6 95 (by decide +kernel) rfl, rfl, fun z => absurd rfl z⟩
theorem fl_X12_129 : FL RX12 129 11 51 2 := ⟨RX12, TX12, 78, tyX12, rfl, tgX12, tyX12_ok, nmX12, rfl, by decide, rfl, TG_t6 96 (by decide +kernel) rfl, rfl, fun z => absurd rfl z⟩
theorem fl_X12_132 : FL RX12 132 11 52 2 := ⟨RX12, TX12, 78, tyX12, rfl, tgX12, tyX12_ok, nmX12, rfl, by decide, rfl, TG_t6 97 (by decide +kernel) rfl, rfl, fun z => absurd rfl z⟩
theorem fl_X12_135 : FL RX12 135 11 53 2 := ⟨RX12, TX12, 78, tyX12, rfl, tgX12, tyX12_ok, nmX12, rfl, by decide, rfl, TG_t6 98 (by decide +kernel) rfl, rfl, fun z => absurd rfl z⟩
theorem fl_X12_138 : FL RX12 138 11 54 2 := ⟨RX12, TX12, 78, tyX12, rfl, tgX12, tyX12_ok, nmX12, rfl, by decide, rfl, TG_t6 99 (by decide +kernel) rfl, rfl, fun z => absurd rfl z⟩
theorem fl_X12_141 : FL RX12 141 11 55 2 := ⟨RX12, TX12, 78, tyX12, rfl, tgX12, tyX12_ok, nmX12, rfl, by decide, rfl, TG_t6 100 (by decide +kernel) rfl, rfl, fun z => absurd rfl z⟩
theorem fl_X12_144 : FL RX12 144 11 56 2 := ⟨RX12, TX12, 78, tyX12, rfl, tgX12, tyX12_ok, nmX12, rfl, by decide, rfl, TG_t6 101 (by decide +kernel) rfl, rfl, fun z => absurd rfl z⟩
theorem fl_X12_147 : FL RX12 147 11 57 2 := ⟨RX12, TX12, 78, tyX12, rfl, tgX12, tyX12_ok, nmX12, rfl, by decide, rfl, TG_t6 102 (by decide +kernel) rfl, rfl, fun z => absurd rfl z⟩
theorem fl_X12_150 : FL RX12 150 11 58 2 := ⟨RX12, TX12, 78, tyX12, rfl, tgX12, tyX12_ok, nmX12, rfl, by decide, rfl, TG_t6 103 (by decide +kernel) rfl, rfl, fun z => absurd rfl z⟩
theorem fl_X12_153 : FL RX12 153 11 59 2 := ⟨RX12, TX12, 78, tyX12, rfl, tgX12, tyX12_ok, nmX12, rfl, by decide, rfl, TG_t6 104 (by decide +kernel) rfl, rfl, fun z => absurd rfl z⟩
theorem fl_X12_156 : FL RX12 156 11 62 0 := ⟨RX12, TX12, 78, tyX12, rfl, tgX12, tyX12_ok, nmX12, rfl, by decide, rfl, TG_t6 107 (by decide +kernel) rfl, rfl, fun _ => by decide +kernel⟩
theorem fl_X12_160 : FL RX12 160 11 64 0 := ⟨RX12, TX12, 78, tyX12, rfl, tgX12, tyX12_ok, nmX12, rfl, by decide, rfl, TG_t6 109 (by decide +kernel) rfl, rfl, fun _ => by decide +kernel⟩
theorem fl_X12_163 : FL RX12 163 11 67 2 := ⟨RX12, TX12, 78, tyX12, rfl, tgX12, tyX12_ok, nmX12, rfl, by decide, rfl, TG_t6 112 (by decide +kernel) rfl, rfl, fun z => absurd rfl z⟩
theorem fl_X12_166 : FL RX12 166 11 68 2 := ⟨RX12, TX12, 78, tyX12, rfl, tgX12, tyX12_ok, nmX12, rfl, by decide, rfl, TG_t6 113 (by decide +kernel) rfl, rfl, fun z => absurd rfl z⟩
theorem fl_X12_169 : FL RX12 169 11 69 2 := ⟨RX12, TX12, 78, tyX12, rfl, tgX12, tyX12_ok, nmX12, rfl, by decide, rfl, TG_t6 114 (by decide +kernel) rfl, rfl, fun z => absurd rfl z⟩
theorem fl_X12_172 : FL RX12 172 11 70 2 := ⟨RX12, TX12, 78, tyX12, rfl, tgX12, tyX12_ok, nmX12, rfl, by decide, rfl, TG_t6 115 (by decide +kernel) rfl, rfl, fun z => absurd rfl z⟩
theorem fl_X12_175 : FL RX12 175 11 71 2 := ⟨RX12, TX12, 78, tyX12, rfl, tgX12, tyX12_ok, nmX12, rfl, by decide, rfl, TG_t6 116 (by decide +kernel) rfl, rfl, fun z => absurd rfl z⟩
theorem fl_X12_178 : FL RX12 178 11 72 2 := ⟨RX12, TX12, 78, tyX12, rfl, tgX12, tyX12_ok, nmX12, rfl, by decide, rfl, TG_t6 117 (by decide +kernel) rfl, rfl, fun z => absurd rfl z⟩
theorem fl_X12_181 : FL RX12 181 11 73 2 := ⟨RX12, TX12, 78, tyX12, rfl, tgX12, tyX12_ok, nmX12, rfl, by decide, rfl, TG_t6 118 (by decide +kernel) rfl, rfl, fun z => absurd rfl z⟩
theorem fl_X12_184 : FL RX12 184 11 76 2 := ⟨RX12, TX12, 78, tyX12, rfl, tgX12, tyX12_ok, nmX12, rfl, by decide, rfl, TG_t6 121 (by decide +kernel) rfl, rfl, fun z => absurd rfl z⟩
theorem fl_X12_194 : FL RX12 194 11 0 0 := ⟨RX12, TX12, 78, tyX12, rfl, tgX12, tyX12_ok, nmX12, rfl, by decide, rfl, TG_t6 45 (by decide +kernel) rfl, rfl, fun _ => by decide +kernel⟩
theorem lk_X12_197 : Cond.constantLong RX12 197 255 ∈ TG := TG_t7 49 (by decide +kernel) rfl
theorem fl_X12_199 : FL RX12 199 11 1 0 := ⟨RX12, TX12, 78, tyX12, rfl, tgX12, tyX12_ok, nmX12, rfl, by decide, rfl, TG_t6 46 (by decide +kernel) rfl, rfl, fun _ => by decide +kernel⟩
theorem fl_X12_202 : FL RX12 202 11 3 0 := ⟨RX12, TX12, 78, tyX12, rfl, tgX12, tyX12_ok, nmX12, rfl, by decide, rfl, TG_t6 48 (by decide +kernel) rfl, rfl, fun _ => by decide +kernel⟩
theorem fl_X12_205 : FL RX12 205 11 4 0 := ⟨RX12, TX12, 78, tyX12, rfl, tgX12, tyX12_ok, nmX12, rfl, by decide, rfl, TG_t6 49 (by decide +kernel) rfl, rfl, fun _ => by decide +kernel⟩
theorem fl_X12_208 : FL RX12 208 11 5 0 := ⟨RX12, TX12, 78, tyX12, rfl, tgX12, tyX12_ok, nmX12, rfl, by decide, rfl, TG_t6 50 (by decide +kernel) rfl, rfl, fun _ => by decide +kernel⟩
theorem fl_X12_211 : FL RX12 211 11 7 1 := ⟨RX12, TX12, 78, tyX12, rfl, tgX12, tyX12_ok, nmX12, rfl, by decide, rfl, TG_t6 52 (by decide +kernel) rfl, rfl, fun _ => by decide +kernel⟩
theorem fl_X12_215 : FL RX12 215 11 8 0 := ⟨RX12, TX12, 78, tyX12, rfl, tgX12, tyX12_ok, nmX12, rfl, by decide, rfl, TG_t6 53 (by decide +kernel) rfl, rfl, fun _ => by decide +kernel⟩
theorem fl_X12_218 : FL RX12 218 11 6 0 := ⟨RX12, TX12, 78, tyX12, rfl, tgX12, tyX12_ok, nmX12, rfl, by decide, rfl, TG_t6 51 (by decide +kernel) rfl, rfl, fun _ => by decide +kernel⟩
theorem lk_X12_225 : Cond.constantLong RX12 225 27 ∈ TG := TG_t7 70 (by decide +kernel) rfl
theorem lk_X12_227 : Cond.constantLong RX12 227 96 ∈ TG := TG_t7 71 (by decide +kernel) rfl
theorem fl_X12_229 : FL RX12 229 11 9 0 := ⟨RX12, TX12, 78, tyX12, rfl, tgX12, tyX12_ok, nmX12, rfl, by decide, rfl, TG_t6 54 (by decide +kernel) rfl, rfl, fun _ => by decide +kernel⟩
theorem fl_X12_232 : FL RX12 232 11 30 0 := ⟨RX12, TX12, 78, tyX12, rfl, tgX12, tyX12_ok, nmX12, rfl, by decide, rfl, TG_t6 75 (by decide +kernel) rfl, rfl, fun _ => by decide +kernel⟩
theorem lk_X12_235 : Cond.constantLong RX12 235 4419 ∈ TG := TG_t7 207 (by decide +kernel) rfl
theorem lk_X12_237 : Cond.constantLong RX12 237 12249946 ∈ TG := TG_t7 208 (by decide +kernel) rfl
theorem lk_X12_239 : Cond.constantLong RX12 239 3130427 ∈ TG := TG_t7 209 (by decide +kernel) rfl
theorem lk_X12_241 : Cond.constantLong RX12 241 257011 ∈ TG := TG_t7 210 (by decide +kernel) rfl
theorem lk_X12_247 : Cond.constantLong RX12 247 10631 ∈ TG := TG_t7 153 (by decide +kernel) rfl
theorem lk_X12_266 : Cond.constantLong RX12 266 1111 ∈ TG := TG_t7 154 (by decide +kernel) rfl
theorem lk_X12_268 : Cond.constantLong RX12 268 423 ∈ TG := TG_t7 155 (by decide +kernel) rfl
theorem lk_X12_279 : Cond.constantLong RX12 279 388978 ∈ TG := TG_t7 72 (by decide +kernel) rfl
theorem lk_X12_281 : Cond.constantLong RX12 281 43347 ∈ TG := TG_t7 96 (by decide +kernel) rfl
theorem lk_X12_283 : Cond.constantLong RX12 283 1890386 ∈ TG := TG_t7 113 (by decide +kernel) rfl
theorem lk_X12_285 : Cond.constantLong RX12 285 13318957 ∈ TG := TG_t7 126 (by decide +kernel) rfl
theorem lk_X12_287 : Cond.constantLong RX12 287 10793230 ∈ TG := TG_t7 127 (by decide +kernel) rfl
theorem lk_X12_289 : Cond.constantLong RX12 289 377722 ∈ TG := TG_t7 128 (by decide +kernel) rfl
theorem lk_X12_291 : Cond.constantLong RX12 291 8863997 ∈ TG := TG_t7 129 (by decide +kernel) rfl
theorem lk_X12_293 : Cond.constantLong RX12 293 6257 ∈ TG := TG_t7 130 (by decide +kernel) rfl
theorem lk_X12_295 : Cond.constantLong RX12 295 1900846 ∈ TG := TG_t7 131 (by decide +kernel) rfl
theorem lk_X12_297 : Cond.constantLong RX12 297 1494603 ∈ TG := TG_t7 132 (by decide +kernel) rfl
theorem lk_X12_299 : Cond.constantLong RX12 299 298288 ∈ TG := TG_t7 133 (by decide +kernel) rfl
theorem lk_X12_301 : Cond.constantLong RX12 301 82422 ∈ TG := TG_t7 134 (by decide +kernel) rfl
theorem lk_X12_303 : Cond.constantLong RX12 303 12253591 ∈ TG := TG_t7 135 (by decide +kernel) rfl
theorem lk_X12_305 : Cond.constantLong RX12 305 12528014 ∈ TG := TG_t7 136 (by decide +kernel) rfl
theorem lk_X12_307 : Cond.constantLong RX12 307 47328332 ∈ TG := TG_t7 137 (by decide +kernel) rfl
theorem lk_X12_309 : Cond.constantLong RX12 309 243208 ∈ TG := TG_t7 138 (by decide +kernel) rfl
theorem lk_X12_311 : Cond.constantLong RX12 311 14110 ∈ TG := TG_t7 139 (by decide +kernel) rfl
theorem lk_X12_313 : Cond.constantLong RX12 313 315743 ∈ TG := TG_t7 140 (by decide +kernel) rfl
theorem lk_X12_315 : Cond.constantLong RX12 315 237470 ∈ TG := TG_t7 141 (by decide +kernel) rfl
theorem lk_X12_317 : Cond.constantLong RX12 317 8328978 ∈ TG := TG_t7 142 (by decide +kernel) rfl
theorem lk_X12_319 : Cond.constantLong RX12 319 11522 ∈ TG := TG_t7 143 (by decide +kernel) rfl
theorem lk_X12_321 : Cond.constantLong RX12 321 257 ∈ TG := TG_t7 144 (by decide +kernel) rfl
theorem lk_X12_323 : Cond.constantLong RX12 323 15809 ∈ TG := TG_t7 145 (by decide +kernel) rfl
theorem lk_X12_325 : Cond.constantLong RX12 325 13703 ∈ TG := TG_t7 146 (by decide +kernel) rfl
theorem lk_X12_327 : Cond.constantLong RX12 327 14716 ∈ TG := TG_t7 147 (by decide +kernel) rfl
theorem lk_X12_329 : Cond.constantLong RX12 329 385495 ∈ TG := TG_t7 148 (by decide +kernel) rfl
theorem lk_X12_331 : Cond.constantLong RX12 331 11912 ∈ TG := TG_t7 149 (by decide +kernel) rfl
theorem lk_X12_333 : Cond.constantLong RX12 333 8740238 ∈ TG := TG_t7 150 (by decide +kernel) rfl
theorem lk_X12_335 : Cond.constantLong RX12 335 8813992 ∈ TG := TG_t7 151 (by decide +kernel) rfl
theorem lk_X12_337 : Cond.constantLong RX12 337 2690359 ∈ TG := TG_t7 152 (by decide +kernel) rfl
theorem fl_X12_347 : FL RX12 347 11 44 0 := ⟨RX12, TX12, 78, tyX12, rfl, tgX12, tyX12_ok, nmX12, rfl, by decide, rfl, TG_t6 89 (by decide +kernel) rfl, rfl, fun _ => by decide +kernel⟩
theorem fl_X12_370 : FL RX12 370 11 31 0 := ⟨RX12, TX12, 78, tyX12, rfl, tgX12, tyX12_ok, nmX12, rfl, by decide, rfl, TG_t6 76 (by decide +kernel) rfl, rfl, fun _ => by decide +kernel⟩
theorem fl_X12_433 : FL RX12 433 11 60 0 := ⟨RX12, TX12, 78, tyX12, rfl, tgX12, tyX12_ok, nmX12, rfl, by decide, rfl, TG_t6 105 (by decide +kernel) rfl, rfl, fun _ => by decide +kernel⟩
theorem mm_X12_450 : Cond.methodLink RX12 450 Lib.Math.min.name ∈ TG := TG_t8 24 (by decide +kernel) rfl
theorem mm_X12_455 : Cond.methodLink RX12 455 Lib.Math.max.name ∈ TG := TG_t8 25 (by decide +kernel) rfl
theorem fl_X12_458 : FL RX12 458 11 63 0 := ⟨RX12, TX12, 78, tyX12, rfl, tgX12, tyX12_ok, nmX12, rfl, by decide, rfl, TG_t6 108 (by decide +kernel) rfl, rfl, fun _ => by decide +kernel⟩
theorem fl_X12_464 : FL RX12 464 11 65 0 := ⟨RX12, TX12, 78, tyX12, rfl, tgX12, tyX12_ok, nmX12, rfl, by decide, rfl, TG_t6 110 (by decide +kernel) rfl, rfl, fun _ => by decide +kernel⟩
theorem fl_X12_470 : FL RX12 470 11 61 0 := ⟨RX12, TX12, 78, tyX12, rfl, tgX12, tyX12_ok, nmX12, rfl, by decide, rfl, TG_t6 106 (by decide +kernel) rfl, rfl, fun _ => by decide +kernel⟩
theorem fl_X12_497 : FL RX12 497 11 66 0 := ⟨RX12, TX12, 78, tyX12, rfl, tgX12, tyX12_ok, nmX12, rfl, by decide, rfl, TG_t6 111 (by decide +kernel) rfl, rfl, fun _ => by decide +kernel⟩
theorem fl_X12_531 : FL RX12 531 11 74 0 := ⟨RX12, TX12, 78, tyX12, rfl, tgX12, tyX12_ok, nmX12, rfl, by decide, rfl, TG_t6 119 (by decide +kernel) rfl, rfl, fun _ => by decide +kernel⟩
theorem fl_X12_537 : FL RX12 537 11 75 0 := ⟨RX12, TX12, 78, tyX12, rfl, tgX12, tyX12_ok, nmX12, rfl, by decide, rfl, TG_t6 120 (by decide +kernel) rfl, rfl, fun _ => by decide +kernel⟩
theorem lk_X12_552 : Cond.constant RX12 552 100000 ∈ TG := TG_t8 148 (by decide +kernel) rfl
theorem lk_X12_556 : Cond.constantLong RX12 556 10 ∈ TG := TG_t8 157 (by decide +kernel) rfl
theorem lk_X12_564 : Cond.constantLong RX12 564 1000000 ∈ TG := TG_t8 166 (by decide +kernel) rfl
theorem fl_X12_578 : FL RX12 578 11 77 1 := ⟨RX12, TX12, 78, tyX12, rfl, tgX12, tyX12_ok, nmX12, rfl, by decide, rfl, TG_t6 122 (by decide +kernel) rfl, rfl, fun _ => by decide +kernel⟩
theorem lk_X12_581 : Cond.constantLong RX12 581 1103515245 ∈ TG := TG_t9 7 (by decide +kernel) rfl
theorem lk_X12_583 : Cond.constantLong RX12 583 12345 ∈ TG := TG_t9 8 (by decide +kernel) rfl
theorem lk_X12_585 : Cond.constantLong RX12 585 2147483648 ∈ TG := TG_t9 9 (by decide +kernel) rfl
theorem lk_X12_587 : Cond.constantLong RX12 587 65536 ∈ TG := TG_t9 10 (by decide +kernel) rfl
theorem lk_J6_265 : Cond.constant RJ6 265 1431655765 ∈ TG := TG_t5 52 (by decide +kernel) rfl
theorem lk_J6_266 : Cond.constant RJ6 266 858993459 ∈ TG := TG_t5 53 (by decide +kernel) rfl
theorem lk_J6_267 : Cond.constant RJ6 267 252645135 ∈ TG := TG_t5 54 (by decide +kernel) rfl
theorem lk_L_19 : Cond.constantLong RL 19 4294967295 ∈ TG := TG_t9 23 (by decide +kernel) rfl
