/-! the graph of the cells, the methods, the links -/
abbrev mX0_init : mX := (yX0_init, cX0_init, 2, none)
abbrev mX0_remember : mX := (yX0_remember, cX0_remember, 3, none)
abbrev mX0_recall : mX := (yX0_recall, cX0_recall, 3, (some .boolean))
abbrev mX0_clear : mX := (yX0_clear, cX0_clear, 1, none)
abbrev mX1_init : mX := (yX1_init, cX1_init, 1, none)
abbrev mX1_has : mX := (yX1_has, cX1_has, 2, (some .boolean))
abbrev mX1_isHad : mX := (yX1_isHad, cX1_isHad, 2, (some .boolean))
abbrev mX1_all : mX := (yX1_all, cX1_all, 1, (some .int))
abbrev mX1_allHad : mX := (yX1_allHad, cX1_allHad, 1, (some .int))
abbrev mX1_distance : mX := (yX1_distance, cX1_distance, 6, (some .int))
abbrev mX1_calledUp : mX := (yX1_calledUp, cX1_calledUp, 7, (some .int))
abbrev mX1_earliestBehind : mX := (yX1_earliestBehind, cX1_earliestBehind, 4, (some .int))
abbrev mX1_firstIn : mX := (yX1_firstIn, cX1_firstIn, 5, (some .int))
abbrev mX1_inDecade : mX := (yX1_inDecade, cX1_inDecade, 2, (some .int))
abbrev mX1_inAge : mX := (yX1_inAge, cX1_inAge, 2, (some .int))
abbrev mX1_leastOfAge : mX := (yX1_leastOfAge, cX1_leastOfAge, 4, (some .int))
abbrev mX1_hadAt : mX := (yX1_hadAt, cX1_hadAt, 4, (some .int))
abbrev mX1_hadWith : mX := (yX1_hadWith, cX1_hadWith, 4, (some .int))
abbrev mX1_companyIn : mX := (yX1_companyIn, cX1_companyIn, 6, (some .int))
abbrev mX1_tell : mX := (yX1_tell, cX1_tell, 5, none)
abbrev mX1_add : mX := (yX1_add, cX1_add, 4, none)
abbrev mX1_copy : mX := (yX1_copy, cX1_copy, 2, none)
abbrev mX2_init : mX := (yX2_init, cX2_init, 1, none)
abbrev mX2_search : mX := (yX2_search, cX2_search, 6, none)
abbrev mX2_farFrom : mX := (yX2_farFrom, cX2_farFrom, 7, (some .int))
abbrev mX2_goOn : mX := (yX2_goOn, cX2_goOn, 5, none)
abbrev mX2_isWorthwhile : mX := (yX2_isWorthwhile, cX2_isWorthwhile, 7, (some .boolean))
abbrev mX2_nth : mX := (yX2_nth, cX2_nth, 2, (some .int))
abbrev mX3_init : mX := (yX3_init, cX3_init, 1, none)
abbrev mX3_takes : mX := (yX3_takes, cX3_takes, 2, (some .boolean))
abbrev mX3_bite : mX := (yX3_bite, cX3_bite, 4, none)
abbrev mX3_comeBack : mX := (yX3_comeBack, cX3_comeBack, 1, none)
abbrev mX3_draw : mX := (yX3_draw, cX3_draw, 1, (some .int))
abbrev mX3_drawSpoons : mX := (yX3_drawSpoons, cX3_drawSpoons, 2, (some .int))
abbrev mX3_drawDish : mX := (yX3_drawDish, cX3_drawDish, 1, (some .int))
abbrev mX3_copy : mX := (yX3_copy, cX3_copy, 2, none)
abbrev mX4_init : mX := (yX4_init, cX4_init, 1, none)
abbrev mX4_clear : mX := (yX4_clear, cX4_clear, 1, none)
abbrev mX4_add : mX := (yX4_add, cX4_add, 2, none)
abbrev mX4_endLine : mX := (yX4_endLine, cX4_endLine, 3, none)
abbrev mX4_weigh : mX := (yX4_weigh, cX4_weigh, 3, none)
abbrev mX4_holds : mX := (yX4_holds, cX4_holds, 5, (some .boolean))
abbrev mX4_step : mX := (yX4_step, cX4_step, 4, (some .int))
abbrev mX4_push : mX := (yX4_push, cX4_push, 4, (some .int))
abbrev mX4_join : mX := (yX4_join, cX4_join, 3, (some .int))
abbrev mX4_copy : mX := (yX4_copy, cX4_copy, 2, none)
abbrev mX5_init : mX := (yX5_init, cX5_init, 1, none)
abbrev mX5_readLine : mX := (yX5_readLine, cX5_readLine, 3, (some .boolean))
abbrev mX5_kindHere : mX := (yX5_kindHere, cX5_kindHere, 1, (some .int))
abbrev mX5_readCondition : mX := (yX5_readCondition, cX5_readCondition, 4, (some .boolean))
abbrev mX5_openingHere : mX := (yX5_openingHere, cX5_openingHere, 1, (some .int))
abbrev mX5_joiningHere : mX := (yX5_joiningHere, cX5_joiningHere, 1, (some .int))
abbrev mX5_putOff : mX := (yX5_putOff, cX5_putOff, 2, none)
abbrev mX5_settle : mX := (yX5_settle, cX5_settle, 3, none)
abbrev mX5_closeBrackets : mX := (yX5_closeBrackets, cX5_closeBrackets, 2, none)
abbrev mX5_readState : mX := (yX5_readState, cX5_readState, 2, (some .boolean))
abbrev mX5_stateHere : mX := (yX5_stateHere, cX5_stateHere, 1, (some .int))
abbrev mX5_readComparison : mX := (yX5_readComparison, cX5_readComparison, 2, (some .boolean))
abbrev mX5_readSum : mX := (yX5_readSum, cX5_readSum, 4, (some .boolean))
abbrev mX5_valueHere : mX := (yX5_valueHere, cX5_valueHere, 1, (some .int))
abbrev mX6_init : mX := (yX6_init, cX6_init, 1, none)
abbrev mX6_readLine : mX := (yX6_readLine, cX6_readLine, 1, (some .boolean))
abbrev mX6_readWar : mX := (yX6_readWar, cX6_readWar, 2, (some .boolean))
abbrev mX6_readDish : mX := (yX6_readDish, cX6_readDish, 3, (some .boolean))
abbrev mX6_readFirst : mX := (yX6_readFirst, cX6_readFirst, 4, (some .boolean))
abbrev mX7_init : mX := (yX7_init, cX7_init, 1, none)
abbrev mX7_write : mX := (yX7_write, cX7_write, 6, none)
abbrev mX7_read : mX := (yX7_read, cX7_read, 3, (some .int))
abbrev mX7_rowsOf : mX := (yX7_rowsOf, cX7_rowsOf, 4, (some .int))
abbrev mX7_latestEvening : mX := (yX7_latestEvening, cX7_latestEvening, 3, (some .int))
abbrev mX7_copy : mX := (yX7_copy, cX7_copy, 2, none)
abbrev mX8_init : mX := (yX8_init, cX8_init, 2, none)
abbrev mX8_search : mX := (yX8_search, cX8_search, 5, none)
abbrev mX8_goOn : mX := (yX8_goOn, cX8_goOn, 8, none)
abbrev mX8_nth : mX := (yX8_nth, cX8_nth, 2, (some .int))
abbrev mX9_init : mX := (yX9_init, cX9_init, 1, none)
abbrev mX9_put : mX := (yX9_put, cX9_put, 3, none)
abbrev mX9_putCalled : mX := (yX9_putCalled, cX9_putCalled, 4, none)
abbrev mX10_init : mX := (yX10_init, cX10_init, 1, none)
abbrev mX10_firstWrong : mX := (yX10_firstWrong, cX10_firstWrong, 5, (some .int))
abbrev mX10_advance : mX := (yX10_advance, cX10_advance, 2, none)
abbrev mX10_kindAt : mX := (yX10_kindAt, cX10_kindAt, 2, (some .int))
abbrev mX10_isSign : mX := (yX10_isSign, cX10_isSign, 2, (some .boolean))
abbrev mX10_isWord : mX := (yX10_isWord, cX10_isWord, 3, (some .boolean))
abbrev mX10_isFigures : mX := (yX10_isFigures, cX10_isFigures, 2, (some .boolean))
abbrev mX10_figure : mX := (yX10_figure, cX10_figure, 2, (some .int))
abbrev mX10_number : mX := (yX10_number, cX10_number, 5, (some .int))
abbrev mX10_numberBehind : mX := (yX10_numberBehind, cX10_numberBehind, 4, (some .int))
abbrev mX11_init : mX := (yX11_init, cX11_init, 1, none)
abbrev mX11_feed : mX := (yX11_feed, cX11_feed, 6, (some .int))
abbrev mX11_putBytes : mX := (yX11_putBytes, cX11_putBytes, 3, none)
abbrev mX11_end : mX := (yX11_end, cX11_end, 2, (some .boolean))
abbrev mX11_takeTape : mX := (yX11_takeTape, cX11_takeTape, 2, (some .int))
abbrev mX11_toldAtMost : mX := (yX11_toldAtMost, cX11_toldAtMost, 4, (some .boolean))
abbrev mX11_life : mX := (yX11_life, cX11_life, 1, (some .int))
abbrev mX11_law : mX := (yX11_law, cX11_law, 1, (some .int))
abbrev mX11_fault : mX := (yX11_fault, cX11_fault, 1, (some .int))
abbrev mX11_dish : mX := (yX11_dish, cX11_dish, 3, (some .int))
abbrev mX11_turnsNow : mX := (yX11_turnsNow, cX11_turnsNow, 2, (some .int))
abbrev mX11_paysNow : mX := (yX11_paysNow, cX11_paysNow, 2, (some .int))
abbrev mX11_far : mX := (yX11_far, cX11_far, 3, (some .int))
abbrev mX11_near : mX := (yX11_near, cX11_near, 4, (some .int))
abbrev mX11_left : mX := (yX11_left, cX11_left, 1, (some .int))
abbrev mX11_spoon : mX := (yX11_spoon, cX11_spoon, 2, (some .int))
abbrev mX11_crust : mX := (yX11_crust, cX11_crust, 1, (some .int))
abbrev mX11_had : mX := (yX11_had, cX11_had, 6, (some .int))
abbrev mX11_forget : mX := (yX11_forget, cX11_forget, 3, (some .int))
abbrev mX11_reach : mX := (yX11_reach, cX11_reach, 3, (some .int))
abbrev mX11_house : mX := (yX11_house, cX11_house, 3, (some .int))
abbrev mX11_isPlace : mX := (yX11_isPlace, cX11_isPlace, 1, (some .boolean))
abbrev mX11_look : mX := (yX11_look, cX11_look, 2, (some .int))
abbrev mX11_evenings : mX := (yX11_evenings, cX11_evenings, 4, (some .int))
abbrev mX11_passEvening : mX := (yX11_passEvening, cX11_passEvening, 7, (some .int))
abbrev mX11_menu : mX := (yX11_menu, cX11_menu, 6, (some .int))
abbrev mX11_fewest : mX := (yX11_fewest, cX11_fewest, 6, (some .int))
abbrev mX11_order : mX := (yX11_order, cX11_order, 4, (some .int))
abbrev mX11_he : mX := (yX11_he, cX11_he, 4, (some .int))
abbrev mX11_arePairs : mX := (yX11_arePairs, cX11_arePairs, 3, (some .boolean))
abbrev mX11_unknown : mX := (yX11_unknown, cX11_unknown, 2, (some .int))
abbrev mX11_fitting : mX := (yX11_fitting, cX11_fitting, 4, (some .int))
abbrev mX11_serve : mX := (yX11_serve, cX11_serve, 7, (some .int))
abbrev mX11_greaterPart : mX := (yX11_greaterPart, cX11_greaterPart, 4, (some .int))
abbrev mX11_jars : mX := (yX11_jars, cX11_jars, 3, (some .int))
abbrev mX11_kitchen : mX := (yX11_kitchen, cX11_kitchen, 2, (some .int))
abbrev mX11_dated : mX := (yX11_dated, cX11_dated, 5, (some .int))
abbrev mX11_gap : mX := (yX11_gap, cX11_gap, 4, (some .int))
abbrev mX11_lover : mX := (yX11_lover, cX11_lover, 5, (some .int))
abbrev mX11_oldest : mX := (yX11_oldest, cX11_oldest, 1, (some .int))
abbrev mX11_sad : mX := (yX11_sad, cX11_sad, 5, (some .int))
abbrev mX11_hosts : mX := (yX11_hosts, cX11_hosts, 9, (some .int))
abbrev mX11_breaks : mX := (yX11_breaks, cX11_breaks, 3, (some .int))
abbrev mX11_twins : mX := (yX11_twins, cX11_twins, 4, (some .int))
abbrev mX11_next : mX := (yX11_next, cX11_next, 1, (some .int))
abbrev mX11_warlike : mX := (yX11_warlike, cX11_warlike, 1, (some .int))
abbrev mX11_company : mX := (yX11_company, cX11_company, 2, (some .int))
abbrev mX11_odds : mX := (yX11_odds, cX11_odds, 6, (some .int))
abbrev mX11_slipParts : mX := (yX11_slipParts, cX11_slipParts, 3, (some .long))
abbrev mX11_share : mX := (yX11_share, cX11_share, 3, (some .int))
abbrev mX11_trial : mX := (yX11_trial, cX11_trial, 3, (some .int))
abbrev mX11_tryEvenings : mX := (yX11_tryEvenings, cX11_tryEvenings, 4, none)
abbrev mX11_span : mX := (yX11_span, cX11_span, 6, (some .int))
abbrev mX11_led : mX := (yX11_led, cX11_led, 3, (some .int))
abbrev mX11_log : mX := (yX11_log, cX11_log, 3, (some .int))
abbrev mX11_seed : mX := (yX11_seed, cX11_seed, 3, (some .int))
abbrev mX11_undo : mX := (yX11_undo, cX11_undo, 1, (some .boolean))
abbrev mX11_image : mX := (yX11_image, cX11_image, 1, none)
abbrev mX11_back : mX := (yX11_back, cX11_back, 1, (some .boolean))
abbrev mX11_count : mX := (yX11_count, cX11_count, 2, (some .int))
abbrev mX12_thrown : mX := (yX12_thrown, cX12_thrown, 1, (some .int))
abbrev mX12_throwsIf : mX := (yX12_throwsIf, cX12_throwsIf, 3, (some .boolean))
abbrev mX12_in : mX := (yX12_in, cX12_in, 3, (some .boolean))
abbrev mX12_has : mX := (yX12_has, cX12_has, 2, (some .boolean))
abbrev mX12_init : mX := (yX12_init, cX12_init, 1, none)
abbrev mX12_image : mX := (yX12_image, cX12_image, 2, none)
abbrev mX12_back : mX := (yX12_back, cX12_back, 2, (some .boolean))
abbrev mX12_remembers : mX := (yX12_remembers, cX12_remembers, 2, none)
abbrev mX12_undo : mX := (yX12_undo, cX12_undo, 2, (some .boolean))
abbrev mX12_dishes : mX := (yX12_dishes, cX12_dishes, 1, (some .int))
abbrev mX12_allDishes : mX := (yX12_allDishes, cX12_allDishes, 1, (some .int))
abbrev mX12_at : mX := (yX12_at, cX12_at, 2, (some .int))
abbrev mX12_of : mX := (yX12_of, cX12_of, 3, (some .int))
abbrev mX12_isNew : mX := (yX12_isNew, cX12_isNew, 2, (some .boolean))
abbrev mX12_noDish : mX := (yX12_noDish, cX12_noDish, 2, (some .boolean))
abbrev mX12_noPlace : mX := (yX12_noPlace, cX12_noPlace, 1, (some .boolean))
abbrev mX12_drawn : mX := (yX12_drawn, cX12_drawn, 2, (some .int))
abbrev mX12_feed : mX := (yX12_feed, cX12_feed, 7, (some .int))
abbrev mX12_end : mX := (yX12_end, cX12_end, 2, (some .boolean))
abbrev mX12_isAt : mX := (yX12_isAt, cX12_isAt, 3, (some .boolean))
abbrev mX12_blanks : mX := (yX12_blanks, cX12_blanks, 1, none)
abbrev mX12_letters : mX := (yX12_letters, cX12_letters, 1, none)
abbrev mX12_isWord : mX := (yX12_isWord, cX12_isWord, 4, (some .boolean))
abbrev mX12_passes : mX := (yX12_passes, cX12_passes, 2, (some .boolean))
abbrev mX12_sign : mX := (yX12_sign, cX12_sign, 2, (some .boolean))
abbrev mX12_number : mX := (yX12_number, cX12_number, 4, (some .int))
abbrev mX12_after : mX := (yX12_after, cX12_after, 4, (some .int))
abbrev mX12_fault : mX := (yX12_fault, cX12_fault, 1, (some .int))
abbrev mX12_uses : mX := (yX12_uses, cX12_uses, 1, none)
abbrev mX12_readNumber : mX := (yX12_readNumber, cX12_readNumber, 5, (some .boolean))
abbrev mX12_readTastes : mX := (yX12_readTastes, cX12_readTastes, 2, (some .boolean))
abbrev mX12_readFirst : mX := (yX12_readFirst, cX12_readFirst, 6, (some .boolean))
abbrev mX12_readDish : mX := (yX12_readDish, cX12_readDish, 3, (some .boolean))
abbrev mX12_readToday : mX := (yX12_readToday, cX12_readToday, 1, (some .boolean))
abbrev mX12_readWar : mX := (yX12_readWar, cX12_readWar, 3, (some .boolean))
abbrev mX12_readLifeLine : mX := (yX12_readLifeLine, cX12_readLifeLine, 1, (some .boolean))
abbrev mX12_emits : mX := (yX12_emits, cX12_emits, 3, none)
abbrev mX12_wordOfPart : mX := (yX12_wordOfPart, cX12_wordOfPart, 1, (some .int))
abbrev mX12_readPart : mX := (yX12_readPart, cX12_readPart, 3, (some .boolean))
abbrev mX12_readSum : mX := (yX12_readSum, cX12_readSum, 1, (some .boolean))
abbrev mX12_readTag : mX := (yX12_readTag, cX12_readTag, 2, (some .boolean))
abbrev mX12_readAtom : mX := (yX12_readAtom, cX12_readAtom, 2, (some .boolean))
abbrev mX12_readAllOf : mX := (yX12_readAllOf, cX12_readAllOf, 1, (some .boolean))
abbrev mX12_readCond : mX := (yX12_readCond, cX12_readCond, 1, (some .boolean))
abbrev mX12_readLawLine : mX := (yX12_readLawLine, cX12_readLawLine, 3, (some .boolean))
abbrev mX12_readLine : mX := (yX12_readLine, cX12_readLine, 3, (some .boolean))
abbrev mX12_readAll : mX := (yX12_readAll, cX12_readAll, 3, (some .int))
abbrev mX12_life : mX := (yX12_life, cX12_life, 3, (some .int))
abbrev mX12_law : mX := (yX12_law, cX12_law, 3, (some .int))
abbrev mX12_farOf : mX := (yX12_farOf, cX12_farOf, 5, (some .int))
abbrev mX12_callsBy : mX := (yX12_callsBy, cX12_callsBy, 6, (some .int))
abbrev mX12_isInWar : mX := (yX12_isInWar, cX12_isInWar, 2, (some .boolean))
abbrev mX12_factOf : mX := (yX12_factOf, cX12_factOf, 5, (some .int))
abbrev mX12_holdsLine : mX := (yX12_holdsLine, cX12_holdsLine, 11, (some .boolean))
abbrev mX12_sumOf : mX := (yX12_sumOf, cX12_sumOf, 6, (some .int))
abbrev mX12_turnsBy : mX := (yX12_turnsBy, cX12_turnsBy, 2, (some .int))
abbrev mX12_paysBy : mX := (yX12_paysBy, cX12_paysBy, 2, (some .int))
abbrev mX12_dish : mX := (yX12_dish, cX12_dish, 3, (some .int))
abbrev mX12_far : mX := (yX12_far, cX12_far, 3, (some .int))
abbrev mX12_near : mX := (yX12_near, cX12_near, 4, (some .int))
abbrev mX12_newOnes : mX := (yX12_newOnes, cX12_newOnes, 3, (some .int))
abbrev mX12_left : mX := (yX12_left, cX12_left, 1, (some .int))
abbrev mX12_tells : mX := (yX12_tells, cX12_tells, 4, none)
abbrev mX12_takesNone : mX := (yX12_takesNone, cX12_takesNone, 1, (some .boolean))
abbrev mX12_takes : mX := (yX12_takes, cX12_takes, 5, (some .int))
abbrev mX12_crusts : mX := (yX12_crusts, cX12_crusts, 1, none)
abbrev mX12_oneEvening : mX := (yX12_oneEvening, cX12_oneEvening, 4, (some .int))
abbrev mX12_goesOn : mX := (yX12_goesOn, cX12_goesOn, 4, (some .int))
abbrev mX12_spoon : mX := (yX12_spoon, cX12_spoon, 2, (some .int))
abbrev mX12_crust : mX := (yX12_crust, cX12_crust, 1, (some .int))
abbrev mX12_had : mX := (yX12_had, cX12_had, 6, (some .int))
abbrev mX12_forget : mX := (yX12_forget, cX12_forget, 4, (some .int))
abbrev mX12_reach : mX := (yX12_reach, cX12_reach, 3, (some .int))
abbrev mX12_house : mX := (yX12_house, cX12_house, 3, (some .int))
abbrev mX12_look : mX := (yX12_look, cX12_look, 1, (some .int))
abbrev mX12_evenings : mX := (yX12_evenings, cX12_evenings, 2, (some .int))
abbrev mX12_keepsAll : mX := (yX12_keepsAll, cX12_keepsAll, 2, none)
abbrev mX12_bringsBack : mX := (yX12_bringsBack, cX12_bringsBack, 2, none)
abbrev mX12_isMenu : mX := (yX12_isMenu, cX12_isMenu, 3, (some .boolean))
abbrev mX12_menu : mX := (yX12_menu, cX12_menu, 6, (some .int))
abbrev mX12_breaks : mX := (yX12_breaks, cX12_breaks, 4, (some .int))
abbrev mX12_ordersOf : mX := (yX12_ordersOf, cX12_ordersOf, 3, (some .int))
abbrev mX12_laysRow : mX := (yX12_laysRow, cX12_laysRow, 10, none)
abbrev mX12_saddest : mX := (yX12_saddest, cX12_saddest, 4, (some .int))
abbrev mX12_order : mX := (yX12_order, cX12_order, 9, (some .int))
abbrev mX12_ageOf : mX := (yX12_ageOf, cX12_ageOf, 2, (some .int))
abbrev mX12_agesOf : mX := (yX12_agesOf, cX12_agesOf, 4, (some .int))
abbrev mX12_noAges : mX := (yX12_noAges, cX12_noAges, 1, (some .boolean))
abbrev mX12_fewest : mX := (yX12_fewest, cX12_fewest, 7, (some .int))
abbrev mX12_wasHad : mX := (yX12_wasHad, cX12_wasHad, 5, (some .boolean))
abbrev mX12_he : mX := (yX12_he, cX12_he, 8, (some .int))
abbrev mX12_fits : mX := (yX12_fits, cX12_fits, 4, (some .boolean))
abbrev mX12_allThatFit : mX := (yX12_allThatFit, cX12_allThatFit, 3, (some .int))
abbrev mX12_unknown : mX := (yX12_unknown, cX12_unknown, 1, (some .int))
abbrev mX12_serve : mX := (yX12_serve, cX12_serve, 8, (some .int))
abbrev mX12_jarFrom : mX := (yX12_jarFrom, cX12_jarFrom, 5, (some .int))
abbrev mX12_areJars : mX := (yX12_areJars, cX12_areJars, 3, (some .boolean))
abbrev mX12_farBy : mX := (yX12_farBy, cX12_farBy, 4, (some .int))
abbrev mX12_laysLeast : mX := (yX12_laysLeast, cX12_laysLeast, 5, none)
abbrev mX12_jars : mX := (yX12_jars, cX12_jars, 6, (some .int))
abbrev mX12_kitchen : mX := (yX12_kitchen, cX12_kitchen, 2, (some .int))
abbrev mX12_hadAt : mX := (yX12_hadAt, cX12_hadAt, 5, (some .int))
abbrev mX12_dated : mX := (yX12_dated, cX12_dated, 5, (some .int))
abbrev mX12_nextFrom : mX := (yX12_nextFrom, cX12_nextFrom, 4, (some .int))
abbrev mX12_gap : mX := (yX12_gap, cX12_gap, 4, (some .int))
abbrev mX12_oldest : mX := (yX12_oldest, cX12_oldest, 1, (some .int))
abbrev mX12_next : mX := (yX12_next, cX12_next, 1, (some .int))
abbrev mX12_lover : mX := (yX12_lover, cX12_lover, 5, (some .int))
abbrev mX12_sad : mX := (yX12_sad, cX12_sad, 5, (some .int))
abbrev mX12_hostHas : mX := (yX12_hostHas, cX12_hostHas, 3, (some .int))
abbrev mX12_hosts : mX := (yX12_hosts, cX12_hosts, 8, (some .int))
abbrev mX12_twins : mX := (yX12_twins, cX12_twins, 4, (some .int))
abbrev mX12_warlike : mX := (yX12_warlike, cX12_warlike, 3, (some .int))
abbrev mX12_company : mX := (yX12_company, cX12_company, 2, (some .int))
abbrev mX12_odds : mX := (yX12_odds, cX12_odds, 8, (some .int))
abbrev mX12_share : mX := (yX12_share, cX12_share, 3, (some .int))
abbrev mX12_trial : mX := (yX12_trial, cX12_trial, 4, (some .int))
abbrev mX12_span : mX := (yX12_span, cX12_span, 6, (some .int))
abbrev mX12_ofLog : mX := (yX12_ofLog, cX12_ofLog, 3, (some .int))
abbrev mX12_led : mX := (yX12_led, cX12_led, 6, (some .int))
abbrev mX12_log : mX := (yX12_log, cX12_log, 3, (some .int))
abbrev mX12_seed : mX := (yX12_seed, cX12_seed, 3, (some .int))
abbrev mX12_count : mX := (yX12_count, cX12_count, 2, (some .int))
abbrev mJ6_bitCount_0f7a4 : mX := (yJ6_bitCount_0f7a4, cJ6_bitCount_0f7a4, 1, (some .int))
abbrev mJ9_abs_0f7a4 : mX := (yJ9_abs_0f7a4, cJ9_abs_0f7a4, 1, (some .int))
abbrev mJ9_max_7cf53 : mX := (yJ9_max_7cf53, cJ9_max_7cf53, 2, (some .int))
abbrev mJ9_min_7cf53 : mX := (yJ9_min_7cf53, cJ9_min_7cf53, 2, (some .int))
abbrev mJ0_length_8abf5 : mX := (yJ0_length_8abf5, cJ0_length_8abf5, 1, (some .int))
abbrev mJ0_charAt_5068e : mX := (yJ0_charAt_5068e, cJ0_charAt_5068e, 2, (some .char))
abbrev mJ0_coder_7d493 : mX := (yJ0_coder_7d493, cJ0_coder_7d493, 1, (some .byte))
abbrev mJ0_isLatin1_aae02 : mX := (yJ0_isLatin1_aae02, cJ0_isLatin1_aae02, 1, (some .boolean))
abbrev mJ0_checkIndex_df160 : mX := (yJ0_checkIndex_df160, cJ0_checkIndex_df160, 2, none)
abbrev mJ1_charAt_3b067 : mX := (yJ1_charAt_3b067, cJ1_charAt_3b067, 2, (some .char))
abbrev mJ2_getChar_3b067 : mX := (yJ2_getChar_3b067, cJ2_getChar_3b067, 2, (some .char))
abbrev mJ2_length_9d52b : mX := (yJ2_length_9d52b, cJ2_length_9d52b, 1, (some .int))
abbrev mJ2_charAt_3b067 : mX := (yJ2_charAt_3b067, cJ2_charAt_3b067, 2, (some .char))
abbrev mJ2_checkIndex_2214a : mX := (yJ2_checkIndex_2214a, cJ2_checkIndex_2214a, 2, none)
abbrev mJ3_checkIndex_8e157 : mX := (yJ3_checkIndex_8e157, cJ3_checkIndex_8e157, 3, (some .int))
abbrev mL_life : mX := (yL_life, cL_life, 3, (some .int))
abbrev mL_law : mX := (yL_law, cL_law, 3, (some .int))
abbrev mL_dish : mX := (yL_dish, cL_dish, 5, (some .int))
abbrev mL_far : mX := (yL_far, cL_far, 5, (some .int))
abbrev mL_near : mX := (yL_near, cL_near, 4, (some .int))
abbrev mL_spoon : mX := (yL_spoon, cL_spoon, 4, (some .int))
abbrev mL_had : mX := (yL_had, cL_had, 7, (some .int))
abbrev mL_forget : mX := (yL_forget, cL_forget, 4, (some .int))
abbrev mL_reach : mX := (yL_reach, cL_reach, 4, (some .int))
abbrev mL_house : mX := (yL_house, cL_house, 4, (some .int))
abbrev mL_evenings : mX := (yL_evenings, cL_evenings, 4, (some .int))
abbrev mL_menu : mX := (yL_menu, cL_menu, 4, (some .int))
abbrev mL_fewest : mX := (yL_fewest, cL_fewest, 5, (some .int))
abbrev mL_order : mX := (yL_order, cL_order, 5, (some .int))
abbrev mL_he : mX := (yL_he, cL_he, 3, (some .int))
abbrev mL_unknown : mX := (yL_unknown, cL_unknown, 3, (some .int))
abbrev mL_serve : mX := (yL_serve, cL_serve, 3, (some .int))
abbrev mL_jars : mX := (yL_jars, cL_jars, 4, (some .int))
abbrev mL_kitchen : mX := (yL_kitchen, cL_kitchen, 4, (some .int))
abbrev mL_hosts : mX := (yL_hosts, cL_hosts, 5, (some .int))
abbrev mL_breaks : mX := (yL_breaks, cL_breaks, 4, (some .int))
abbrev mL_company : mX := (yL_company, cL_company, 4, (some .int))
abbrev mL_odds : mX := (yL_odds, cL_odds, 5, (some .int))
abbrev mL_share : mX := (yL_share, cL_share, 4, (some .int))
abbrev mL_trial : mX := (yL_trial, cL_trial, 5, (some .int))
abbrev mL_span : mX := (yL_span, cL_span, 5, (some .int))
abbrev mL_led : mX := (yL_led, cL_led, 5, (some .int))
abbrev mL_log : mX := (yL_log, cL_log, 5, (some .int))
def ptL : List (Nat × List (Nat × Nat)) := [(1, [(0, 2), (3, 3), (4, 9), (5, 15), (6, 17), (7, 116), (8, 122), (9, 128), (11, 130), (12, 136), (13, 138), (14, 146), (15, 155), (16, 201)]), (3, [(0, 4)]), (4, [(1, 5), (2, 6), (3, 7), (4, 8)]), (9, [(1, 10), (2, 11), (3, 12), (4, 13), (6, 14)]), (15, [(2, 16)]), (17, [(2, 18), (3, 19)]), (18, [(0, 20), (1, 28), (2, 36), (3, 44), (4, 52), (5, 60), (6, 68), (7, 76), (8, 84), (9, 92), (10, 100), (11, 108)]), (19, [(0, 26), (1, 34), (2, 42), (3, 50), (4, 58), (5, 66), (6, 74), (7, 82), (8, 90), (9, 98), (10, 106), (11, 114)]), (20, [(0, 21)]), (21, [(1, 22), (2, 23), (3, 24), (4, 25)]), (26, [(2, 27)]), (28, [(0, 29)]), (29, [(1, 30), (2, 31), (3, 32), (4, 33)]), (34, [(2, 35)]), (36, [(0, 37)]), (37, [(1, 38), (2, 39), (3, 40), (4, 41)]), (42, [(2, 43)]), (44, [(0, 45)]), (45, [(1, 46), (2, 47), (3, 48), (4, 49)]), (50, [(2, 51)]), (52, [(0, 53)]), (53, [(1, 54), (2, 55), (3, 56), (4, 57)]), (58, [(2, 59)]), (60, [(0, 61)]), (61, [(1, 62), (2, 63), (3, 64), (4, 65)]), (66, [(2, 67)]), (68, [(0, 69)]), (69, [(1, 70), (2, 71), (3, 72), (4, 73)]), (74, [(2, 75)]), (76, [(0, 77)]), (77, [(1, 78), (2, 79), (3, 80), (4, 81)]), (82, [(2, 83)]), (84, [(0, 85)]), (85, [(1, 86), (2, 87), (3, 88), (4, 89)]), (90, [(2, 91)]), (92, [(0, 93)]), (93, [(1, 94), (2, 95), (3, 96), (4, 97)]), (98, [(2, 99)]), (100, [(0, 101)]), (101, [(1, 102), (2, 103), (3, 104), (4, 105)]), (106, [(2, 107)]), (108, [(0, 109)]), (109, [(1, 110), (2, 111), (3, 112), (4, 113)]), (114, [(2, 115)]), (116, [(0, 117)]), (117, [(1, 118), (2, 119), (3, 120), (4, 121)]), (122, [(1, 123), (2, 124), (3, 125), (4, 126), (6, 127)]), (128, [(2, 129)]), (130, [(0, 131)]), (131, [(1, 132), (2, 133), (3, 134), (4, 135)]), (136, [(3, 137)]), (138, [(0, 139), (5, 140)]), (140, [(0, 141)]), (141, [(1, 142), (2, 143), (3, 144), (4, 145)]), (146, [(0, 147), (5, 148), (6, 154)]), (148, [(1, 149), (2, 150), (3, 151), (4, 152), (6, 153)]), (155, [(2, 156), (3, 157), (4, 158)]), (158, [(0, 159), (1, 165), (2, 171), (3, 177), (4, 183), (5, 189), (6, 195)]), (159, [(0, 160)]), (160, [(1, 161), (2, 162), (3, 163), (4, 164)]), (165, [(0, 166)]), (166, [(1, 167), (2, 168), (3, 169), (4, 170)]), (171, [(0, 172)]), (172, [(1, 173), (2, 174), (3, 175), (4, 176)]), (177, [(0, 178)]), (178, [(1, 179), (2, 180), (3, 181), (4, 182)]), (183, [(0, 184)]), (184, [(1, 185), (2, 186), (3, 187), (4, 188)]), (189, [(0, 190)]), (190, [(1, 191), (2, 192), (3, 193), (4, 194)]), (195, [(0, 196)]), (196, [(1, 197), (2, 198), (3, 199), (4, 200)]), (201, [(3, 202), (4, 203), (5, 204)]), (205, [(1, 206), (2, 207), (3, 208), (4, 209), (5, 210), (8, 211), (15, 212), (17, 213), (18, 214), (19, 215), (20, 216), (21, 217)])]
def PT (a k : Nat) : Option Nat := match ptL.find? (fun r => r.1 == a) with
  | some r => match r.2.find? (fun q => q.1 == k) with
    | some q => some q.2
    | none => none
  | none => none
/-- the references as the constructors lay them, but for the place 'text' of a text -/
def Wp (P : Nat → Nat → Option Nat) : Prop := ∀ a k, ¬ (((LT a).1 = 5 ∨ (LT a).1 = 6) ∧ k = 0) → P a k = PT a k
def okOB (a c : Nat) : Bool := decide (1 ≤ a) && decide (a < NT) && decide (LT a = (c, cN c)) && decide (c < 12)
def okAR (a k n : Nat) : Bool := decide (1 ≤ a) && decide (a < NT) && decide (LT a = (k, n))
theorem OB_of {a c : Nat} (h : okOB a c = true) : OB NT a c := by
  simp only [okOB, Bool.and_eq_true, decide_eq_true_eq] at h
  exact ⟨h.1.1.1, h.1.1.2, h.1.2, h.2⟩
theorem AR_of {a k n : Nat} (h : okAR a k n = true) : AR NT a k n := by
  simp only [okAR, Bool.and_eq_true, decide_eq_true_eq] at h
  exact ⟨h.1.1, h.1.2, h.2⟩
theorem all_lt {p : Nat → Bool} {n : Nat} (h : (List.range n).all p = true) : ∀ a, a < n → p a = true := fun a ha => List.all_eq_true.mp h a (List.mem_range.mpr ha)
theorem gr_0_2 {P : Nat → Nat → Option Nat} (hp : Wp P) {a : Nat} (h : OB NT a 0) : P a 2 = some (a + 1) ∧ AR NT (a + 1) 15 12 := by
  have h1 : (!(okOB a 0) || (decide (PT a 2 = some (a + 1)) && okAR (a + 1) 15 12)) = true := all_lt (p := fun a => !(okOB a 0) || (decide (PT a 2 = some (a + 1)) && okAR (a + 1) 15 12)) (by decide +kernel) a h.2.1
  have h2 : okOB a 0 = true := by simp only [okOB, Bool.and_eq_true, decide_eq_true_eq]; exact ⟨⟨⟨h.1, h.2.1⟩, h.2.2.1⟩, h.2.2.2⟩
  rw [h2] at h1
  simp only [Bool.not_true, Bool.false_or, Bool.and_eq_true, decide_eq_true_eq] at h1
  refine ⟨(hp a 2 (fun q => ?_)).trans h1.1, AR_of h1.2⟩
  rw [h.2.2.1] at q
  revert q
  show ¬ ((0 = 5 ∨ 0 = 6) ∧ 2 = 0)
  decide
theorem gr_0_3 {P : Nat → Nat → Option Nat} (hp : Wp P) {a : Nat} (h : OB NT a 0) : P a 3 = some (a + 2) ∧ AR NT (a + 2) 16 12 := by
  have h1 : (!(okOB a 0) || (decide (PT a 3 = some (a + 2)) && okAR (a + 2) 16 12)) = true := all_lt (p := fun a => !(okOB a 0) || (decide (PT a 3 = some (a + 2)) && okAR (a + 2) 16 12)) (by decide +kernel) a h.2.1
  have h2 : okOB a 0 = true := by simp only [okOB, Bool.and_eq_true, decide_eq_true_eq]; exact ⟨⟨⟨h.1, h.2.1⟩, h.2.2.1⟩, h.2.2.2⟩
  rw [h2] at h1
  simp only [Bool.not_true, Bool.false_or, Bool.and_eq_true, decide_eq_true_eq] at h1
  refine ⟨(hp a 3 (fun q => ?_)).trans h1.1, AR_of h1.2⟩
  rw [h.2.2.1] at q
  revert q
  show ¬ ((0 = 5 ∨ 0 = 6) ∧ 3 = 0)
  decide
theorem gr_1_1 {P : Nat → Nat → Option Nat} (hp : Wp P) {a : Nat} (h : OB NT a 1) : P a 1 = some (a + 1) ∧ AR NT (a + 1) 13 60 := by
  have h1 : (!(okOB a 1) || (decide (PT a 1 = some (a + 1)) && okAR (a + 1) 13 60)) = true := all_lt (p := fun a => !(okOB a 1) || (decide (PT a 1 = some (a + 1)) && okAR (a + 1) 13 60)) (by decide +kernel) a h.2.1
  have h2 : okOB a 1 = true := by simp only [okOB, Bool.and_eq_true, decide_eq_true_eq]; exact ⟨⟨⟨h.1, h.2.1⟩, h.2.2.1⟩, h.2.2.2⟩
  rw [h2] at h1
  simp only [Bool.not_true, Bool.false_or, Bool.and_eq_true, decide_eq_true_eq] at h1
  refine ⟨(hp a 1 (fun q => ?_)).trans h1.1, AR_of h1.2⟩
  rw [h.2.2.1] at q
  revert q
  show ¬ ((1 = 5 ∨ 1 = 6) ∧ 1 = 0)
  decide
theorem gr_1_2 {P : Nat → Nat → Option Nat} (hp : Wp P) {a : Nat} (h : OB NT a 1) : P a 2 = some (a + 2) ∧ AR NT (a + 2) 13 12 := by
  have h1 : (!(okOB a 1) || (decide (PT a 2 = some (a + 2)) && okAR (a + 2) 13 12)) = true := all_lt (p := fun a => !(okOB a 1) || (decide (PT a 2 = some (a + 2)) && okAR (a + 2) 13 12)) (by decide +kernel) a h.2.1
  have h2 : okOB a 1 = true := by simp only [okOB, Bool.and_eq_true, decide_eq_true_eq]; exact ⟨⟨⟨h.1, h.2.1⟩, h.2.2.1⟩, h.2.2.2⟩
  rw [h2] at h1
  simp only [Bool.not_true, Bool.false_or, Bool.and_eq_true, decide_eq_true_eq] at h1
  refine ⟨(hp a 2 (fun q => ?_)).trans h1.1, AR_of h1.2⟩
  rw [h.2.2.1] at q
  revert q
  show ¬ ((1 = 5 ∨ 1 = 6) ∧ 2 = 0)
  decide
theorem gr_1_3 {P : Nat → Nat → Option Nat} (hp : Wp P) {a : Nat} (h : OB NT a 1) : P a 3 = some (a + 3) ∧ AR NT (a + 3) 13 12 := by
  have h1 : (!(okOB a 1) || (decide (PT a 3 = some (a + 3)) && okAR (a + 3) 13 12)) = true := all_lt (p := fun a => !(okOB a 1) || (decide (PT a 3 = some (a + 3)) && okAR (a + 3) 13 12)) (by decide +kernel) a h.2.1
  have h2 : okOB a 1 = true := by simp only [okOB, Bool.and_eq_true, decide_eq_true_eq]; exact ⟨⟨⟨h.1, h.2.1⟩, h.2.2.1⟩, h.2.2.2⟩
  rw [h2] at h1
  simp only [Bool.not_true, Bool.false_or, Bool.and_eq_true, decide_eq_true_eq] at h1
  refine ⟨(hp a 3 (fun q => ?_)).trans h1.1, AR_of h1.2⟩
  rw [h.2.2.1] at q
  revert q
  show ¬ ((1 = 5 ∨ 1 = 6) ∧ 3 = 0)
  decide
theorem gr_1_4 {P : Nat → Nat → Option Nat} (hp : Wp P) {a : Nat} (h : OB NT a 1) : P a 4 = some (a + 4) ∧ AR NT (a + 4) 13 12 := by
  have h1 : (!(okOB a 1) || (decide (PT a 4 = some (a + 4)) && okAR (a + 4) 13 12)) = true := all_lt (p := fun a => !(okOB a 1) || (decide (PT a 4 = some (a + 4)) && okAR (a + 4) 13 12)) (by decide +kernel) a h.2.1
  have h2 : okOB a 1 = true := by simp only [okOB, Bool.and_eq_true, decide_eq_true_eq]; exact ⟨⟨⟨h.1, h.2.1⟩, h.2.2.1⟩, h.2.2.2⟩
  rw [h2] at h1
  simp only [Bool.not_true, Bool.false_or, Bool.and_eq_true, decide_eq_true_eq] at h1
  refine ⟨(hp a 4 (fun q => ?_)).trans h1.1, AR_of h1.2⟩
  rw [h.2.2.1] at q
  revert q
  show ¬ ((1 = 5 ∨ 1 = 6) ∧ 4 = 0)
  decide
theorem gr_2_3 {P : Nat → Nat → Option Nat} (hp : Wp P) {a : Nat} (h : OB NT a 2) : P a 3 = some (a + 1) ∧ AR NT (a + 1) 13 60 := by
  have h1 : (!(okOB a 2) || (decide (PT a 3 = some (a + 1)) && okAR (a + 1) 13 60)) = true := all_lt (p := fun a => !(okOB a 2) || (decide (PT a 3 = some (a + 1)) && okAR (a + 1) 13 60)) (by decide +kernel) a h.2.1
  have h2 : okOB a 2 = true := by simp only [okOB, Bool.and_eq_true, decide_eq_true_eq]; exact ⟨⟨⟨h.1, h.2.1⟩, h.2.2.1⟩, h.2.2.2⟩
  rw [h2] at h1
  simp only [Bool.not_true, Bool.false_or, Bool.and_eq_true, decide_eq_true_eq] at h1
  refine ⟨(hp a 3 (fun q => ?_)).trans h1.1, AR_of h1.2⟩
  rw [h.2.2.1] at q
  revert q
  show ¬ ((2 = 5 ∨ 2 = 6) ∧ 3 = 0)
  decide
theorem gr_2_4 {P : Nat → Nat → Option Nat} (hp : Wp P) {a : Nat} (h : OB NT a 2) : P a 4 = some (a + 2) ∧ AR NT (a + 2) 13 5 := by
  have h1 : (!(okOB a 2) || (decide (PT a 4 = some (a + 2)) && okAR (a + 2) 13 5)) = true := all_lt (p := fun a => !(okOB a 2) || (decide (PT a 4 = some (a + 2)) && okAR (a + 2) 13 5)) (by decide +kernel) a h.2.1
  have h2 : okOB a 2 = true := by simp only [okOB, Bool.and_eq_true, decide_eq_true_eq]; exact ⟨⟨⟨h.1, h.2.1⟩, h.2.2.1⟩, h.2.2.2⟩
  rw [h2] at h1
  simp only [Bool.not_true, Bool.false_or, Bool.and_eq_true, decide_eq_true_eq] at h1
  refine ⟨(hp a 4 (fun q => ?_)).trans h1.1, AR_of h1.2⟩
  rw [h.2.2.1] at q
  revert q
  show ¬ ((2 = 5 ∨ 2 = 6) ∧ 4 = 0)
  decide
theorem gr_2_5 {P : Nat → Nat → Option Nat} (hp : Wp P) {a : Nat} (h : OB NT a 2) : P a 5 = some (a + 3) ∧ AR NT (a + 3) 13 5 := by
  have h1 : (!(okOB a 2) || (decide (PT a 5 = some (a + 3)) && okAR (a + 3) 13 5)) = true := all_lt (p := fun a => !(okOB a 2) || (decide (PT a 5 = some (a + 3)) && okAR (a + 3) 13 5)) (by decide +kernel) a h.2.1
  have h2 : okOB a 2 = true := by simp only [okOB, Bool.and_eq_true, decide_eq_true_eq]; exact ⟨⟨⟨h.1, h.2.1⟩, h.2.2.1⟩, h.2.2.2⟩
  rw [h2] at h1
  simp only [Bool.not_true, Bool.false_or, Bool.and_eq_true, decide_eq_true_eq] at h1
  refine ⟨(hp a 5 (fun q => ?_)).trans h1.1, AR_of h1.2⟩
  rw [h.2.2.1] at q
  revert q
  show ¬ ((2 = 5 ∨ 2 = 6) ∧ 5 = 0)
  decide
theorem gr_3_0 {P : Nat → Nat → Option Nat} (hp : Wp P) {a : Nat} (h : OB NT a 3) : P a 0 = some (a + 1) ∧ OB NT (a + 1) 1 := by
  have h1 : (!(okOB a 3) || (decide (PT a 0 = some (a + 1)) && okOB (a + 1) 1)) = true := all_lt (p := fun a => !(okOB a 3) || (decide (PT a 0 = some (a + 1)) && okOB (a + 1) 1)) (by decide +kernel) a h.2.1
  have h2 : okOB a 3 = true := by simp only [okOB, Bool.and_eq_true, decide_eq_true_eq]; exact ⟨⟨⟨h.1, h.2.1⟩, h.2.2.1⟩, h.2.2.2⟩
  rw [h2] at h1
  simp only [Bool.not_true, Bool.false_or, Bool.and_eq_true, decide_eq_true_eq] at h1
  refine ⟨(hp a 0 (fun q => ?_)).trans h1.1, OB_of h1.2⟩
  rw [h.2.2.1] at q
  revert q
  show ¬ ((3 = 5 ∨ 3 = 6) ∧ 0 = 0)
  decide
theorem gr_4_1 {P : Nat → Nat → Option Nat} (hp : Wp P) {a : Nat} (h : OB NT a 4) : P a 1 = some (a + 1) ∧ AR NT (a + 1) 13 12 := by
  have h1 : (!(okOB a 4) || (decide (PT a 1 = some (a + 1)) && okAR (a + 1) 13 12)) = true := all_lt (p := fun a => !(okOB a 4) || (decide (PT a 1 = some (a + 1)) && okAR (a + 1) 13 12)) (by decide +kernel) a h.2.1
  have h2 : okOB a 4 = true := by simp only [okOB, Bool.and_eq_true, decide_eq_true_eq]; exact ⟨⟨⟨h.1, h.2.1⟩, h.2.2.1⟩, h.2.2.2⟩
  rw [h2] at h1
  simp only [Bool.not_true, Bool.false_or, Bool.and_eq_true, decide_eq_true_eq] at h1
  refine ⟨(hp a 1 (fun q => ?_)).trans h1.1, AR_of h1.2⟩
  rw [h.2.2.1] at q
  revert q
  show ¬ ((4 = 5 ∨ 4 = 6) ∧ 1 = 0)
  decide
theorem gr_4_2 {P : Nat → Nat → Option Nat} (hp : Wp P) {a : Nat} (h : OB NT a 4) : P a 2 = some (a + 2) ∧ AR NT (a + 2) 13 12 := by
  have h1 : (!(okOB a 4) || (decide (PT a 2 = some (a + 2)) && okAR (a + 2) 13 12)) = true := all_lt (p := fun a => !(okOB a 4) || (decide (PT a 2 = some (a + 2)) && okAR (a + 2) 13 12)) (by decide +kernel) a h.2.1
  have h2 : okOB a 4 = true := by simp only [okOB, Bool.and_eq_true, decide_eq_true_eq]; exact ⟨⟨⟨h.1, h.2.1⟩, h.2.2.1⟩, h.2.2.2⟩
  rw [h2] at h1
  simp only [Bool.not_true, Bool.false_or, Bool.and_eq_true, decide_eq_true_eq] at h1
  refine ⟨(hp a 2 (fun q => ?_)).trans h1.1, AR_of h1.2⟩
  rw [h.2.2.1] at q
  revert q
  show ¬ ((4 = 5 ∨ 4 = 6) ∧ 2 = 0)
  decide
theorem gr_4_3 {P : Nat → Nat → Option Nat} (hp : Wp P) {a : Nat} (h : OB NT a 4) : P a 3 = some (a + 3) ∧ AR NT (a + 3) 13 12 := by
  have h1 : (!(okOB a 4) || (decide (PT a 3 = some (a + 3)) && okAR (a + 3) 13 12)) = true := all_lt (p := fun a => !(okOB a 4) || (decide (PT a 3 = some (a + 3)) && okAR (a + 3) 13 12)) (by decide +kernel) a h.2.1
  have h2 : okOB a 4 = true := by simp only [okOB, Bool.and_eq_true, decide_eq_true_eq]; exact ⟨⟨⟨h.1, h.2.1⟩, h.2.2.1⟩, h.2.2.2⟩
  rw [h2] at h1
  simp only [Bool.not_true, Bool.false_or, Bool.and_eq_true, decide_eq_true_eq] at h1
  refine ⟨(hp a 3 (fun q => ?_)).trans h1.1, AR_of h1.2⟩
  rw [h.2.2.1] at q
  revert q
  show ¬ ((4 = 5 ∨ 4 = 6) ∧ 3 = 0)
  decide
theorem gr_4_4 {P : Nat → Nat → Option Nat} (hp : Wp P) {a : Nat} (h : OB NT a 4) : P a 4 = some (a + 4) ∧ AR NT (a + 4) 13 400 := by
  have h1 : (!(okOB a 4) || (decide (PT a 4 = some (a + 4)) && okAR (a + 4) 13 400)) = true := all_lt (p := fun a => !(okOB a 4) || (decide (PT a 4 = some (a + 4)) && okAR (a + 4) 13 400)) (by decide +kernel) a h.2.1
  have h2 : okOB a 4 = true := by simp only [okOB, Bool.and_eq_true, decide_eq_true_eq]; exact ⟨⟨⟨h.1, h.2.1⟩, h.2.2.1⟩, h.2.2.2⟩
  rw [h2] at h1
  simp only [Bool.not_true, Bool.false_or, Bool.and_eq_true, decide_eq_true_eq] at h1
  refine ⟨(hp a 4 (fun q => ?_)).trans h1.1, AR_of h1.2⟩
  rw [h.2.2.1] at q
  revert q
  show ¬ ((4 = 5 ∨ 4 = 6) ∧ 4 = 0)
  decide
theorem gr_4_6 {P : Nat → Nat → Option Nat} (hp : Wp P) {a : Nat} (h : OB NT a 4) : P a 6 = some (a + 5) ∧ AR NT (a + 5) 13 64 := by
  have h1 : (!(okOB a 4) || (decide (PT a 6 = some (a + 5)) && okAR (a + 5) 13 64)) = true := all_lt (p := fun a => !(okOB a 4) || (decide (PT a 6 = some (a + 5)) && okAR (a + 5) 13 64)) (by decide +kernel) a h.2.1
  have h2 : okOB a 4 = true := by simp only [okOB, Bool.and_eq_true, decide_eq_true_eq]; exact ⟨⟨⟨h.1, h.2.1⟩, h.2.2.1⟩, h.2.2.2⟩
  rw [h2] at h1
  simp only [Bool.not_true, Bool.false_or, Bool.and_eq_true, decide_eq_true_eq] at h1
  refine ⟨(hp a 6 (fun q => ?_)).trans h1.1, AR_of h1.2⟩
  rw [h.2.2.1] at q
  revert q
  show ¬ ((4 = 5 ∨ 4 = 6) ∧ 6 = 0)
  decide
theorem gr_5_5 {P : Nat → Nat → Option Nat} (hp : Wp P) {a : Nat} (h : OB NT a 5) : P a 5 = some (a + 2) ∧ OB NT (a + 2) 4 := by
  have h1 : (!(okOB a 5) || (decide (PT a 5 = some (a + 2)) && okOB (a + 2) 4)) = true := all_lt (p := fun a => !(okOB a 5) || (decide (PT a 5 = some (a + 2)) && okOB (a + 2) 4)) (by decide +kernel) a h.2.1
  have h2 : okOB a 5 = true := by simp only [okOB, Bool.and_eq_true, decide_eq_true_eq]; exact ⟨⟨⟨h.1, h.2.1⟩, h.2.2.1⟩, h.2.2.2⟩
  rw [h2] at h1
  simp only [Bool.not_true, Bool.false_or, Bool.and_eq_true, decide_eq_true_eq] at h1
  refine ⟨(hp a 5 (fun q => ?_)).trans h1.1, OB_of h1.2⟩
  rw [h.2.2.1] at q
  revert q
  show ¬ ((5 = 5 ∨ 5 = 6) ∧ 5 = 0)
  decide
theorem gr_5_6 {P : Nat → Nat → Option Nat} (hp : Wp P) {a : Nat} (h : OB NT a 5) : P a 6 = some (a + 8) ∧ AR NT (a + 8) 13 21 := by
  have h1 : (!(okOB a 5) || (decide (PT a 6 = some (a + 8)) && okAR (a + 8) 13 21)) = true := all_lt (p := fun a => !(okOB a 5) || (decide (PT a 6 = some (a + 8)) && okAR (a + 8) 13 21)) (by decide +kernel) a h.2.1
  have h2 : okOB a 5 = true := by simp only [okOB, Bool.and_eq_true, decide_eq_true_eq]; exact ⟨⟨⟨h.1, h.2.1⟩, h.2.2.1⟩, h.2.2.2⟩
  rw [h2] at h1
  simp only [Bool.not_true, Bool.false_or, Bool.and_eq_true, decide_eq_true_eq] at h1
  refine ⟨(hp a 6 (fun q => ?_)).trans h1.1, AR_of h1.2⟩
  rw [h.2.2.1] at q
  revert q
  show ¬ ((5 = 5 ∨ 5 = 6) ∧ 6 = 0)
  decide
theorem gr_6_5 {P : Nat → Nat → Option Nat} (hp : Wp P) {a : Nat} (h : OB NT a 6) : P a 5 = some (a + 2) ∧ OB NT (a + 2) 3 := by
  have h1 : (!(okOB a 6) || (decide (PT a 5 = some (a + 2)) && okOB (a + 2) 3)) = true := all_lt (p := fun a => !(okOB a 6) || (decide (PT a 5 = some (a + 2)) && okOB (a + 2) 3)) (by decide +kernel) a h.2.1
  have h2 : okOB a 6 = true := by simp only [okOB, Bool.and_eq_true, decide_eq_true_eq]; exact ⟨⟨⟨h.1, h.2.1⟩, h.2.2.1⟩, h.2.2.2⟩
  rw [h2] at h1
  simp only [Bool.not_true, Bool.false_or, Bool.and_eq_true, decide_eq_true_eq] at h1
  refine ⟨(hp a 5 (fun q => ?_)).trans h1.1, OB_of h1.2⟩
  rw [h.2.2.1] at q
  revert q
  show ¬ ((6 = 5 ∨ 6 = 6) ∧ 5 = 0)
  decide
theorem gr_7_2 {P : Nat → Nat → Option Nat} (hp : Wp P) {a : Nat} (h : OB NT a 7) : P a 2 = some (a + 1) ∧ AR NT (a + 1) 13 240 := by
  have h1 : (!(okOB a 7) || (decide (PT a 2 = some (a + 1)) && okAR (a + 1) 13 240)) = true := all_lt (p := fun a => !(okOB a 7) || (decide (PT a 2 = some (a + 1)) && okAR (a + 1) 13 240)) (by decide +kernel) a h.2.1
  have h2 : okOB a 7 = true := by simp only [okOB, Bool.and_eq_true, decide_eq_true_eq]; exact ⟨⟨⟨h.1, h.2.1⟩, h.2.2.1⟩, h.2.2.2⟩
  rw [h2] at h1
  simp only [Bool.not_true, Bool.false_or, Bool.and_eq_true, decide_eq_true_eq] at h1
  refine ⟨(hp a 2 (fun q => ?_)).trans h1.1, AR_of h1.2⟩
  rw [h.2.2.1] at q
  revert q
  show ¬ ((7 = 5 ∨ 7 = 6) ∧ 2 = 0)
  decide
theorem gr_8_2 {P : Nat → Nat → Option Nat} (hp : Wp P) {a : Nat} (h : OB NT a 8) : P a 2 = some (a + 1) ∧ AR NT (a + 1) 13 6 := by
  have h1 : (!(okOB a 8) || (decide (PT a 2 = some (a + 1)) && okAR (a + 1) 13 6)) = true := all_lt (p := fun a => !(okOB a 8) || (decide (PT a 2 = some (a + 1)) && okAR (a + 1) 13 6)) (by decide +kernel) a h.2.1
  have h2 : okOB a 8 = true := by simp only [okOB, Bool.and_eq_true, decide_eq_true_eq]; exact ⟨⟨⟨h.1, h.2.1⟩, h.2.2.1⟩, h.2.2.2⟩
  rw [h2] at h1
  simp only [Bool.not_true, Bool.false_or, Bool.and_eq_true, decide_eq_true_eq] at h1
  refine ⟨(hp a 2 (fun q => ?_)).trans h1.1, AR_of h1.2⟩
  rw [h.2.2.1] at q
  revert q
  show ¬ ((8 = 5 ∨ 8 = 6) ∧ 2 = 0)
  decide
theorem gr_8_3 {P : Nat → Nat → Option Nat} (hp : Wp P) {a : Nat} (h : OB NT a 8) : P a 3 = some (a + 2) ∧ AR NT (a + 2) 13 6 := by
  have h1 : (!(okOB a 8) || (decide (PT a 3 = some (a + 2)) && okAR (a + 2) 13 6)) = true := all_lt (p := fun a => !(okOB a 8) || (decide (PT a 3 = some (a + 2)) && okAR (a + 2) 13 6)) (by decide +kernel) a h.2.1
  have h2 : okOB a 8 = true := by simp only [okOB, Bool.and_eq_true, decide_eq_true_eq]; exact ⟨⟨⟨h.1, h.2.1⟩, h.2.2.1⟩, h.2.2.2⟩
  rw [h2] at h1
  simp only [Bool.not_true, Bool.false_or, Bool.and_eq_true, decide_eq_true_eq] at h1
  refine ⟨(hp a 3 (fun q => ?_)).trans h1.1, AR_of h1.2⟩
  rw [h.2.2.1] at q
  revert q
  show ¬ ((8 = 5 ∨ 8 = 6) ∧ 3 = 0)
  decide
theorem gr_8_4 {P : Nat → Nat → Option Nat} (hp : Wp P) {a : Nat} (h : OB NT a 8) : P a 4 = some (a + 3) ∧ AR NT (a + 3) 15 7 := by
  have h1 : (!(okOB a 8) || (decide (PT a 4 = some (a + 3)) && okAR (a + 3) 15 7)) = true := all_lt (p := fun a => !(okOB a 8) || (decide (PT a 4 = some (a + 3)) && okAR (a + 3) 15 7)) (by decide +kernel) a h.2.1
  have h2 : okOB a 8 = true := by simp only [okOB, Bool.and_eq_true, decide_eq_true_eq]; exact ⟨⟨⟨h.1, h.2.1⟩, h.2.2.1⟩, h.2.2.2⟩
  rw [h2] at h1
  simp only [Bool.not_true, Bool.false_or, Bool.and_eq_true, decide_eq_true_eq] at h1
  refine ⟨(hp a 4 (fun q => ?_)).trans h1.1, AR_of h1.2⟩
  rw [h.2.2.1] at q
  revert q
  show ¬ ((8 = 5 ∨ 8 = 6) ∧ 4 = 0)
  decide
theorem gr_9_3 {P : Nat → Nat → Option Nat} (hp : Wp P) {a : Nat} (h : OB NT a 9) : P a 3 = some (a + 1) ∧ AR NT (a + 1) 13 9 := by
  have h1 : (!(okOB a 9) || (decide (PT a 3 = some (a + 1)) && okAR (a + 1) 13 9)) = true := all_lt (p := fun a => !(okOB a 9) || (decide (PT a 3 = some (a + 1)) && okAR (a + 1) 13 9)) (by decide +kernel) a h.2.1
  have h2 : okOB a 9 = true := by simp only [okOB, Bool.and_eq_true, decide_eq_true_eq]; exact ⟨⟨⟨h.1, h.2.1⟩, h.2.2.1⟩, h.2.2.2⟩
  rw [h2] at h1
  simp only [Bool.not_true, Bool.false_or, Bool.and_eq_true, decide_eq_true_eq] at h1
  refine ⟨(hp a 3 (fun q => ?_)).trans h1.1, AR_of h1.2⟩
  rw [h.2.2.1] at q
  revert q
  show ¬ ((9 = 5 ∨ 9 = 6) ∧ 3 = 0)
  decide
theorem gr_10_0 {P : Nat → Nat → Option Nat} (hp : Wp P) {a : Nat} (h : OB NT a 10) : P a 0 = some (a + 1) ∧ AR NT (a + 1) 13 400 := by
  have h1 : (!(okOB a 10) || (decide (PT a 0 = some (a + 1)) && okAR (a + 1) 13 400)) = true := all_lt (p := fun a => !(okOB a 10) || (decide (PT a 0 = some (a + 1)) && okAR (a + 1) 13 400)) (by decide +kernel) a h.2.1
  have h2 : okOB a 10 = true := by simp only [okOB, Bool.and_eq_true, decide_eq_true_eq]; exact ⟨⟨⟨h.1, h.2.1⟩, h.2.2.1⟩, h.2.2.2⟩
  rw [h2] at h1
  simp only [Bool.not_true, Bool.false_or, Bool.and_eq_true, decide_eq_true_eq] at h1
  refine ⟨(hp a 0 (fun q => ?_)).trans h1.1, AR_of h1.2⟩
  rw [h.2.2.1] at q
  revert q
  show ¬ ((10 = 5 ∨ 10 = 6) ∧ 0 = 0)
  decide
theorem gr_10_3 {P : Nat → Nat → Option Nat} (hp : Wp P) {a : Nat} (h : OB NT a 10) : P a 3 = some (a + 2) ∧ OB NT (a + 2) 3 := by
  have h1 : (!(okOB a 10) || (decide (PT a 3 = some (a + 2)) && okOB (a + 2) 3)) = true := all_lt (p := fun a => !(okOB a 10) || (decide (PT a 3 = some (a + 2)) && okOB (a + 2) 3)) (by decide +kernel) a h.2.1
  have h2 : okOB a 10 = true := by simp only [okOB, Bool.and_eq_true, decide_eq_true_eq]; exact ⟨⟨⟨h.1, h.2.1⟩, h.2.2.1⟩, h.2.2.2⟩
  rw [h2] at h1
  simp only [Bool.not_true, Bool.false_or, Bool.and_eq_true, decide_eq_true_eq] at h1
  refine ⟨(hp a 3 (fun q => ?_)).trans h1.1, OB_of h1.2⟩
  rw [h.2.2.1] at q
  revert q
  show ¬ ((10 = 5 ∨ 10 = 6) ∧ 3 = 0)
  decide
theorem gr_10_4 {P : Nat → Nat → Option Nat} (hp : Wp P) {a : Nat} (h : OB NT a 10) : P a 4 = some (a + 8) ∧ OB NT (a + 8) 4 := by
  have h1 : (!(okOB a 10) || (decide (PT a 4 = some (a + 8)) && okOB (a + 8) 4)) = true := all_lt (p := fun a => !(okOB a 10) || (decide (PT a 4 = some (a + 8)) && okOB (a + 8) 4)) (by decide +kernel) a h.2.1
  have h2 : okOB a 10 = true := by simp only [okOB, Bool.and_eq_true, decide_eq_true_eq]; exact ⟨⟨⟨h.1, h.2.1⟩, h.2.2.1⟩, h.2.2.2⟩
  rw [h2] at h1
  simp only [Bool.not_true, Bool.false_or, Bool.and_eq_true, decide_eq_true_eq] at h1
  refine ⟨(hp a 4 (fun q => ?_)).trans h1.1, OB_of h1.2⟩
  rw [h.2.2.1] at q
  revert q
  show ¬ ((10 = 5 ∨ 10 = 6) ∧ 4 = 0)
  decide
theorem gr_10_5 {P : Nat → Nat → Option Nat} (hp : Wp P) {a : Nat} (h : OB NT a 10) : P a 5 = some (a + 14) ∧ OB NT (a + 14) 7 := by
  have h1 : (!(okOB a 10) || (decide (PT a 5 = some (a + 14)) && okOB (a + 14) 7)) = true := all_lt (p := fun a => !(okOB a 10) || (decide (PT a 5 = some (a + 14)) && okOB (a + 14) 7)) (by decide +kernel) a h.2.1
  have h2 : okOB a 10 = true := by simp only [okOB, Bool.and_eq_true, decide_eq_true_eq]; exact ⟨⟨⟨h.1, h.2.1⟩, h.2.2.1⟩, h.2.2.2⟩
  rw [h2] at h1
  simp only [Bool.not_true, Bool.false_or, Bool.and_eq_true, decide_eq_true_eq] at h1
  refine ⟨(hp a 5 (fun q => ?_)).trans h1.1, OB_of h1.2⟩
  rw [h.2.2.1] at q
  revert q
  show ¬ ((10 = 5 ∨ 10 = 6) ∧ 5 = 0)
  decide
theorem gr_10_6 {P : Nat → Nat → Option Nat} (hp : Wp P) {a : Nat} (h : OB NT a 10) : P a 6 = some (a + 16) ∧ OB NT (a + 16) 0 := by
  have h1 : (!(okOB a 10) || (decide (PT a 6 = some (a + 16)) && okOB (a + 16) 0)) = true := all_lt (p := fun a => !(okOB a 10) || (decide (PT a 6 = some (a + 16)) && okOB (a + 16) 0)) (by decide +kernel) a h.2.1
  have h2 : okOB a 10 = true := by simp only [okOB, Bool.and_eq_true, decide_eq_true_eq]; exact ⟨⟨⟨h.1, h.2.1⟩, h.2.2.1⟩, h.2.2.2⟩
  rw [h2] at h1
  simp only [Bool.not_true, Bool.false_or, Bool.and_eq_true, decide_eq_true_eq] at h1
  refine ⟨(hp a 6 (fun q => ?_)).trans h1.1, OB_of h1.2⟩
  rw [h.2.2.1] at q
  revert q
  show ¬ ((10 = 5 ∨ 10 = 6) ∧ 6 = 0)
  decide
theorem gr_10_7 {P : Nat → Nat → Option Nat} (hp : Wp P) {a : Nat} (h : OB NT a 10) : P a 7 = some (a + 115) ∧ OB NT (a + 115) 3 := by
  have h1 : (!(okOB a 10) || (decide (PT a 7 = some (a + 115)) && okOB (a + 115) 3)) = true := all_lt (p := fun a => !(okOB a 10) || (decide (PT a 7 = some (a + 115)) && okOB (a + 115) 3)) (by decide +kernel) a h.2.1
  have h2 : okOB a 10 = true := by simp only [okOB, Bool.and_eq_true, decide_eq_true_eq]; exact ⟨⟨⟨h.1, h.2.1⟩, h.2.2.1⟩, h.2.2.2⟩
  rw [h2] at h1
  simp only [Bool.not_true, Bool.false_or, Bool.and_eq_true, decide_eq_true_eq] at h1
  refine ⟨(hp a 7 (fun q => ?_)).trans h1.1, OB_of h1.2⟩
  rw [h.2.2.1] at q
  revert q
  show ¬ ((10 = 5 ∨ 10 = 6) ∧ 7 = 0)
  decide
theorem gr_10_8 {P : Nat → Nat → Option Nat} (hp : Wp P) {a : Nat} (h : OB NT a 10) : P a 8 = some (a + 121) ∧ OB NT (a + 121) 4 := by
  have h1 : (!(okOB a 10) || (decide (PT a 8 = some (a + 121)) && okOB (a + 121) 4)) = true := all_lt (p := fun a => !(okOB a 10) || (decide (PT a 8 = some (a + 121)) && okOB (a + 121) 4)) (by decide +kernel) a h.2.1
  have h2 : okOB a 10 = true := by simp only [okOB, Bool.and_eq_true, decide_eq_true_eq]; exact ⟨⟨⟨h.1, h.2.1⟩, h.2.2.1⟩, h.2.2.2⟩
  rw [h2] at h1
  simp only [Bool.not_true, Bool.false_or, Bool.and_eq_true, decide_eq_true_eq] at h1
  refine ⟨(hp a 8 (fun q => ?_)).trans h1.1, OB_of h1.2⟩
  rw [h.2.2.1] at q
  revert q
  show ¬ ((10 = 5 ∨ 10 = 6) ∧ 8 = 0)
  decide
theorem gr_10_9 {P : Nat → Nat → Option Nat} (hp : Wp P) {a : Nat} (h : OB NT a 10) : P a 9 = some (a + 127) ∧ OB NT (a + 127) 7 := by
  have h1 : (!(okOB a 10) || (decide (PT a 9 = some (a + 127)) && okOB (a + 127) 7)) = true := all_lt (p := fun a => !(okOB a 10) || (decide (PT a 9 = some (a + 127)) && okOB (a + 127) 7)) (by decide +kernel) a h.2.1
  have h2 : okOB a 10 = true := by simp only [okOB, Bool.and_eq_true, decide_eq_true_eq]; exact ⟨⟨⟨h.1, h.2.1⟩, h.2.2.1⟩, h.2.2.2⟩
  rw [h2] at h1
  simp only [Bool.not_true, Bool.false_or, Bool.and_eq_true, decide_eq_true_eq] at h1
  refine ⟨(hp a 9 (fun q => ?_)).trans h1.1, OB_of h1.2⟩
  rw [h.2.2.1] at q
  revert q
  show ¬ ((10 = 5 ∨ 10 = 6) ∧ 9 = 0)
  decide
theorem gr_10_11 {P : Nat → Nat → Option Nat} (hp : Wp P) {a : Nat} (h : OB NT a 10) : P a 11 = some (a + 129) ∧ OB NT (a + 129) 3 := by
  have h1 : (!(okOB a 10) || (decide (PT a 11 = some (a + 129)) && okOB (a + 129) 3)) = true := all_lt (p := fun a => !(okOB a 10) || (decide (PT a 11 = some (a + 129)) && okOB (a + 129) 3)) (by decide +kernel) a h.2.1
  have h2 : okOB a 10 = true := by simp only [okOB, Bool.and_eq_true, decide_eq_true_eq]; exact ⟨⟨⟨h.1, h.2.1⟩, h.2.2.1⟩, h.2.2.2⟩
  rw [h2] at h1
  simp only [Bool.not_true, Bool.false_or, Bool.and_eq_true, decide_eq_true_eq] at h1
  refine ⟨(hp a 11 (fun q => ?_)).trans h1.1, OB_of h1.2⟩
  rw [h.2.2.1] at q
  revert q
  show ¬ ((10 = 5 ∨ 10 = 6) ∧ 11 = 0)
  decide
theorem gr_10_12 {P : Nat → Nat → Option Nat} (hp : Wp P) {a : Nat} (h : OB NT a 10) : P a 12 = some (a + 135) ∧ OB NT (a + 135) 9 := by
  have h1 : (!(okOB a 10) || (decide (PT a 12 = some (a + 135)) && okOB (a + 135) 9)) = true := all_lt (p := fun a => !(okOB a 10) || (decide (PT a 12 = some (a + 135)) && okOB (a + 135) 9)) (by decide +kernel) a h.2.1
  have h2 : okOB a 10 = true := by simp only [okOB, Bool.and_eq_true, decide_eq_true_eq]; exact ⟨⟨⟨h.1, h.2.1⟩, h.2.2.1⟩, h.2.2.2⟩
  rw [h2] at h1
  simp only [Bool.not_true, Bool.false_or, Bool.and_eq_true, decide_eq_true_eq] at h1
  refine ⟨(hp a 12 (fun q => ?_)).trans h1.1, OB_of h1.2⟩
  rw [h.2.2.1] at q
  revert q
  show ¬ ((10 = 5 ∨ 10 = 6) ∧ 12 = 0)
  decide
theorem gr_10_13 {P : Nat → Nat → Option Nat} (hp : Wp P) {a : Nat} (h : OB NT a 10) : P a 13 = some (a + 137) ∧ OB NT (a + 137) 6 := by
  have h1 : (!(okOB a 10) || (decide (PT a 13 = some (a + 137)) && okOB (a + 137) 6)) = true := all_lt (p := fun a => !(okOB a 10) || (decide (PT a 13 = some (a + 137)) && okOB (a + 137) 6)) (by decide +kernel) a h.2.1
  have h2 : okOB a 10 = true := by simp only [okOB, Bool.and_eq_true, decide_eq_true_eq]; exact ⟨⟨⟨h.1, h.2.1⟩, h.2.2.1⟩, h.2.2.2⟩
  rw [h2] at h1
  simp only [Bool.not_true, Bool.false_or, Bool.and_eq_true, decide_eq_true_eq] at h1
  refine ⟨(hp a 13 (fun q => ?_)).trans h1.1, OB_of h1.2⟩
  rw [h.2.2.1] at q
  revert q
  show ¬ ((10 = 5 ∨ 10 = 6) ∧ 13 = 0)
  decide
theorem gr_10_14 {P : Nat → Nat → Option Nat} (hp : Wp P) {a : Nat} (h : OB NT a 10) : P a 14 = some (a + 145) ∧ OB NT (a + 145) 5 := by
  have h1 : (!(okOB a 10) || (decide (PT a 14 = some (a + 145)) && okOB (a + 145) 5)) = true := all_lt (p := fun a => !(okOB a 10) || (decide (PT a 14 = some (a + 145)) && okOB (a + 145) 5)) (by decide +kernel) a h.2.1
  have h2 : okOB a 10 = true := by simp only [okOB, Bool.and_eq_true, decide_eq_true_eq]; exact ⟨⟨⟨h.1, h.2.1⟩, h.2.2.1⟩, h.2.2.2⟩
  rw [h2] at h1
  simp only [Bool.not_true, Bool.false_or, Bool.and_eq_true, decide_eq_true_eq] at h1
  refine ⟨(hp a 14 (fun q => ?_)).trans h1.1, OB_of h1.2⟩
  rw [h.2.2.1] at q
  revert q
  show ¬ ((10 = 5 ∨ 10 = 6) ∧ 14 = 0)
  decide
theorem gr_10_15 {P : Nat → Nat → Option Nat} (hp : Wp P) {a : Nat} (h : OB NT a 10) : P a 15 = some (a + 154) ∧ OB NT (a + 154) 8 := by
  have h1 : (!(okOB a 10) || (decide (PT a 15 = some (a + 154)) && okOB (a + 154) 8)) = true := all_lt (p := fun a => !(okOB a 10) || (decide (PT a 15 = some (a + 154)) && okOB (a + 154) 8)) (by decide +kernel) a h.2.1
  have h2 : okOB a 10 = true := by simp only [okOB, Bool.and_eq_true, decide_eq_true_eq]; exact ⟨⟨⟨h.1, h.2.1⟩, h.2.2.1⟩, h.2.2.2⟩
  rw [h2] at h1
  simp only [Bool.not_true, Bool.false_or, Bool.and_eq_true, decide_eq_true_eq] at h1
  refine ⟨(hp a 15 (fun q => ?_)).trans h1.1, OB_of h1.2⟩
  rw [h.2.2.1] at q
  revert q
  show ¬ ((10 = 5 ∨ 10 = 6) ∧ 15 = 0)
  decide
theorem gr_10_16 {P : Nat → Nat → Option Nat} (hp : Wp P) {a : Nat} (h : OB NT a 10) : P a 16 = some (a + 200) ∧ OB NT (a + 200) 2 := by
  have h1 : (!(okOB a 10) || (decide (PT a 16 = some (a + 200)) && okOB (a + 200) 2)) = true := all_lt (p := fun a => !(okOB a 10) || (decide (PT a 16 = some (a + 200)) && okOB (a + 200) 2)) (by decide +kernel) a h.2.1
  have h2 : okOB a 10 = true := by simp only [okOB, Bool.and_eq_true, decide_eq_true_eq]; exact ⟨⟨⟨h.1, h.2.1⟩, h.2.2.1⟩, h.2.2.2⟩
  rw [h2] at h1
  simp only [Bool.not_true, Bool.false_or, Bool.and_eq_true, decide_eq_true_eq] at h1
  refine ⟨(hp a 16 (fun q => ?_)).trans h1.1, OB_of h1.2⟩
  rw [h.2.2.1] at q
  revert q
  show ¬ ((10 = 5 ∨ 10 = 6) ∧ 16 = 0)
  decide
theorem gr_11_1 {P : Nat → Nat → Option Nat} (hp : Wp P) {a : Nat} (h : OB NT a 11) : P a 1 = some (a + 1) ∧ AR NT (a + 1) 13 2051 := by
  have h1 : (!(okOB a 11) || (decide (PT a 1 = some (a + 1)) && okAR (a + 1) 13 2051)) = true := all_lt (p := fun a => !(okOB a 11) || (decide (PT a 1 = some (a + 1)) && okAR (a + 1) 13 2051)) (by decide +kernel) a h.2.1
  have h2 : okOB a 11 = true := by simp only [okOB, Bool.and_eq_true, decide_eq_true_eq]; exact ⟨⟨⟨h.1, h.2.1⟩, h.2.2.1⟩, h.2.2.2⟩
  rw [h2] at h1
  simp only [Bool.not_true, Bool.false_or, Bool.and_eq_true, decide_eq_true_eq] at h1
  refine ⟨(hp a 1 (fun q => ?_)).trans h1.1, AR_of h1.2⟩
  rw [h.2.2.1] at q
  revert q
  show ¬ ((11 = 5 ∨ 11 = 6) ∧ 1 = 0)
  decide
theorem gr_11_2 {P : Nat → Nat → Option Nat} (hp : Wp P) {a : Nat} (h : OB NT a 11) : P a 2 = some (a + 2) ∧ AR NT (a + 2) 13 1202 := by
  have h1 : (!(okOB a 11) || (decide (PT a 2 = some (a + 2)) && okAR (a + 2) 13 1202)) = true := all_lt (p := fun a => !(okOB a 11) || (decide (PT a 2 = some (a + 2)) && okAR (a + 2) 13 1202)) (by decide +kernel) a h.2.1
  have h2 : okOB a 11 = true := by simp only [okOB, Bool.and_eq_true, decide_eq_true_eq]; exact ⟨⟨⟨h.1, h.2.1⟩, h.2.2.1⟩, h.2.2.2⟩
  rw [h2] at h1
  simp only [Bool.not_true, Bool.false_or, Bool.and_eq_true, decide_eq_true_eq] at h1
  refine ⟨(hp a 2 (fun q => ?_)).trans h1.1, AR_of h1.2⟩
  rw [h.2.2.1] at q
  revert q
  show ¬ ((11 = 5 ∨ 11 = 6) ∧ 2 = 0)
  decide
theorem gr_11_3 {P : Nat → Nat → Option Nat} (hp : Wp P) {a : Nat} (h : OB NT a 11) : P a 3 = some (a + 3) ∧ AR NT (a + 3) 13 1202 := by
  have h1 : (!(okOB a 11) || (decide (PT a 3 = some (a + 3)) && okAR (a + 3) 13 1202)) = true := all_lt (p := fun a => !(okOB a 11) || (decide (PT a 3 = some (a + 3)) && okAR (a + 3) 13 1202)) (by decide +kernel) a h.2.1
  have h2 : okOB a 11 = true := by simp only [okOB, Bool.and_eq_true, decide_eq_true_eq]; exact ⟨⟨⟨h.1, h.2.1⟩, h.2.2.1⟩, h.2.2.2⟩
  rw [h2] at h1
  simp only [Bool.not_true, Bool.false_or, Bool.and_eq_true, decide_eq_true_eq] at h1
  refine ⟨(hp a 3 (fun q => ?_)).trans h1.1, AR_of h1.2⟩
  rw [h.2.2.1] at q
  revert q
  show ¬ ((11 = 5 ∨ 11 = 6) ∧ 3 = 0)
  decide
theorem gr_11_4 {P : Nat → Nat → Option Nat} (hp : Wp P) {a : Nat} (h : OB NT a 11) : P a 4 = some (a + 4) ∧ AR NT (a + 4) 13 353 := by
  have h1 : (!(okOB a 11) || (decide (PT a 4 = some (a + 4)) && okAR (a + 4) 13 353)) = true := all_lt (p := fun a => !(okOB a 11) || (decide (PT a 4 = some (a + 4)) && okAR (a + 4) 13 353)) (by decide +kernel) a h.2.1
  have h2 : okOB a 11 = true := by simp only [okOB, Bool.and_eq_true, decide_eq_true_eq]; exact ⟨⟨⟨h.1, h.2.1⟩, h.2.2.1⟩, h.2.2.2⟩
  rw [h2] at h1
  simp only [Bool.not_true, Bool.false_or, Bool.and_eq_true, decide_eq_true_eq] at h1
  refine ⟨(hp a 4 (fun q => ?_)).trans h1.1, AR_of h1.2⟩
  rw [h.2.2.1] at q
  revert q
  show ¬ ((11 = 5 ∨ 11 = 6) ∧ 4 = 0)
  decide
theorem gr_11_5 {P : Nat → Nat → Option Nat} (hp : Wp P) {a : Nat} (h : OB NT a 11) : P a 5 = some (a + 5) ∧ AR NT (a + 5) 13 4236 := by
  have h1 : (!(okOB a 11) || (decide (PT a 5 = some (a + 5)) && okAR (a + 5) 13 4236)) = true := all_lt (p := fun a => !(okOB a 11) || (decide (PT a 5 = some (a + 5)) && okAR (a + 5) 13 4236)) (by decide +kernel) a h.2.1
  have h2 : okOB a 11 = true := by simp only [okOB, Bool.and_eq_true, decide_eq_true_eq]; exact ⟨⟨⟨h.1, h.2.1⟩, h.2.2.1⟩, h.2.2.2⟩
  rw [h2] at h1
  simp only [Bool.not_true, Bool.false_or, Bool.and_eq_true, decide_eq_true_eq] at h1
  refine ⟨(hp a 5 (fun q => ?_)).trans h1.1, AR_of h1.2⟩
  rw [h.2.2.1] at q
  revert q
  show ¬ ((11 = 5 ∨ 11 = 6) ∧ 5 = 0)
  decide
theorem gr_11_8 {P : Nat → Nat → Option Nat} (hp : Wp P) {a : Nat} (h : OB NT a 11) : P a 8 = some (a + 6) ∧ AR NT (a + 6) 12 400 := by
  have h1 : (!(okOB a 11) || (decide (PT a 8 = some (a + 6)) && okAR (a + 6) 12 400)) = true := all_lt (p := fun a => !(okOB a 11) || (decide (PT a 8 = some (a + 6)) && okAR (a + 6) 12 400)) (by decide +kernel) a h.2.1
  have h2 : okOB a 11 = true := by simp only [okOB, Bool.and_eq_true, decide_eq_true_eq]; exact ⟨⟨⟨h.1, h.2.1⟩, h.2.2.1⟩, h.2.2.2⟩
  rw [h2] at h1
  simp only [Bool.not_true, Bool.false_or, Bool.and_eq_true, decide_eq_true_eq] at h1
  refine ⟨(hp a 8 (fun q => ?_)).trans h1.1, AR_of h1.2⟩
  rw [h.2.2.1] at q
  revert q
  show ¬ ((11 = 5 ∨ 11 = 6) ∧ 8 = 0)
  decide
theorem gr_11_15 {P : Nat → Nat → Option Nat} (hp : Wp P) {a : Nat} (h : OB NT a 11) : P a 15 = some (a + 7) ∧ AR NT (a + 7) 13 5 := by
  have h1 : (!(okOB a 11) || (decide (PT a 15 = some (a + 7)) && okAR (a + 7) 13 5)) = true := all_lt (p := fun a => !(okOB a 11) || (decide (PT a 15 = some (a + 7)) && okAR (a + 7) 13 5)) (by decide +kernel) a h.2.1
  have h2 : okOB a 11 = true := by simp only [okOB, Bool.and_eq_true, decide_eq_true_eq]; exact ⟨⟨⟨h.1, h.2.1⟩, h.2.2.1⟩, h.2.2.2⟩
  rw [h2] at h1
  simp only [Bool.not_true, Bool.false_or, Bool.and_eq_true, decide_eq_true_eq] at h1
  refine ⟨(hp a 15 (fun q => ?_)).trans h1.1, AR_of h1.2⟩
  rw [h.2.2.1] at q
  revert q
  show ¬ ((11 = 5 ∨ 11 = 6) ∧ 15 = 0)
  decide
theorem gr_11_17 {P : Nat → Nat → Option Nat} (hp : Wp P) {a : Nat} (h : OB NT a 11) : P a 17 = some (a + 8) ∧ AR NT (a + 8) 13 400 := by
  have h1 : (!(okOB a 11) || (decide (PT a 17 = some (a + 8)) && okAR (a + 8) 13 400)) = true := all_lt (p := fun a => !(okOB a 11) || (decide (PT a 17 = some (a + 8)) && okAR (a + 8) 13 400)) (by decide +kernel) a h.2.1
  have h2 : okOB a 11 = true := by simp only [okOB, Bool.and_eq_true, decide_eq_true_eq]; exact ⟨⟨⟨h.1, h.2.1⟩, h.2.2.1⟩, h.2.2.2⟩
  rw [h2] at h1
  simp only [Bool.not_true, Bool.false_or, Bool.and_eq_true, decide_eq_true_eq] at h1
  refine ⟨(hp a 17 (fun q => ?_)).trans h1.1, AR_of h1.2⟩
  rw [h.2.2.1] at q
  revert q
  show ¬ ((11 = 5 ∨ 11 = 6) ∧ 17 = 0)
  decide
theorem gr_11_18 {P : Nat → Nat → Option Nat} (hp : Wp P) {a : Nat} (h : OB NT a 11) : P a 18 = some (a + 9) ∧ AR NT (a + 9) 13 6 := by
  have h1 : (!(okOB a 11) || (decide (PT a 18 = some (a + 9)) && okAR (a + 9) 13 6)) = true := all_lt (p := fun a => !(okOB a 11) || (decide (PT a 18 = some (a + 9)) && okAR (a + 9) 13 6)) (by decide +kernel) a h.2.1
  have h2 : okOB a 11 = true := by simp only [okOB, Bool.and_eq_true, decide_eq_true_eq]; exact ⟨⟨⟨h.1, h.2.1⟩, h.2.2.1⟩, h.2.2.2⟩
  rw [h2] at h1
  simp only [Bool.not_true, Bool.false_or, Bool.and_eq_true, decide_eq_true_eq] at h1
  refine ⟨(hp a 18 (fun q => ?_)).trans h1.1, AR_of h1.2⟩
  rw [h.2.2.1] at q
  revert q
  show ¬ ((11 = 5 ∨ 11 = 6) ∧ 18 = 0)
  decide
theorem gr_11_19 {P : Nat → Nat → Option Nat} (hp : Wp P) {a : Nat} (h : OB NT a 11) : P a 19 = some (a + 10) ∧ AR NT (a + 10) 13 6 := by
  have h1 : (!(okOB a 11) || (decide (PT a 19 = some (a + 10)) && okAR (a + 10) 13 6)) = true := all_lt (p := fun a => !(okOB a 11) || (decide (PT a 19 = some (a + 10)) && okAR (a + 10) 13 6)) (by decide +kernel) a h.2.1
  have h2 : okOB a 11 = true := by simp only [okOB, Bool.and_eq_true, decide_eq_true_eq]; exact ⟨⟨⟨h.1, h.2.1⟩, h.2.2.1⟩, h.2.2.2⟩
  rw [h2] at h1
  simp only [Bool.not_true, Bool.false_or, Bool.and_eq_true, decide_eq_true_eq] at h1
  refine ⟨(hp a 19 (fun q => ?_)).trans h1.1, AR_of h1.2⟩
  rw [h.2.2.1] at q
  revert q
  show ¬ ((11 = 5 ∨ 11 = 6) ∧ 19 = 0)
  decide
theorem gr_11_20 {P : Nat → Nat → Option Nat} (hp : Wp P) {a : Nat} (h : OB NT a 11) : P a 20 = some (a + 11) ∧ AR NT (a + 11) 13 4096 := by
  have h1 : (!(okOB a 11) || (decide (PT a 20 = some (a + 11)) && okAR (a + 11) 13 4096)) = true := all_lt (p := fun a => !(okOB a 11) || (decide (PT a 20 = some (a + 11)) && okAR (a + 11) 13 4096)) (by decide +kernel) a h.2.1
  have h2 : okOB a 11 = true := by simp only [okOB, Bool.and_eq_true, decide_eq_true_eq]; exact ⟨⟨⟨h.1, h.2.1⟩, h.2.2.1⟩, h.2.2.2⟩
  rw [h2] at h1
  simp only [Bool.not_true, Bool.false_or, Bool.and_eq_true, decide_eq_true_eq] at h1
  refine ⟨(hp a 20 (fun q => ?_)).trans h1.1, AR_of h1.2⟩
  rw [h.2.2.1] at q
  revert q
  show ¬ ((11 = 5 ∨ 11 = 6) ∧ 20 = 0)
  decide
theorem gr_11_21 {P : Nat → Nat → Option Nat} (hp : Wp P) {a : Nat} (h : OB NT a 11) : P a 21 = some (a + 12) ∧ AR NT (a + 12) 14 7 := by
  have h1 : (!(okOB a 11) || (decide (PT a 21 = some (a + 12)) && okAR (a + 12) 14 7)) = true := all_lt (p := fun a => !(okOB a 11) || (decide (PT a 21 = some (a + 12)) && okAR (a + 12) 14 7)) (by decide +kernel) a h.2.1
  have h2 : okOB a 11 = true := by simp only [okOB, Bool.and_eq_true, decide_eq_true_eq]; exact ⟨⟨⟨h.1, h.2.1⟩, h.2.2.1⟩, h.2.2.2⟩
  rw [h2] at h1
  simp only [Bool.not_true, Bool.false_or, Bool.and_eq_true, decide_eq_true_eq] at h1
  refine ⟨(hp a 21 (fun q => ?_)).trans h1.1, AR_of h1.2⟩
  rw [h.2.2.1] at q
  revert q
  show ¬ ((11 = 5 ∨ 11 = 6) ∧ 21 = 0)
  decide
theorem at_0 : OB NT 17 0 := OB_of (by decide +kernel)
theorem at_2 : OB NT 201 2 := OB_of (by decide +kernel)
theorem at_5 : OB NT 146 5 := OB_of (by decide +kernel)
theorem at_6 : OB NT 138 6 := OB_of (by decide +kernel)
theorem at_8 : OB NT 155 8 := OB_of (by decide +kernel)
theorem at_9 : OB NT 136 9 := OB_of (by decide +kernel)
theorem at_10 : OB NT 1 10 := OB_of (by decide +kernel)
theorem at_11 : OB NT 205 11 := OB_of (by decide +kernel)
theorem gr_al {P : Nat → Nat → Option Nat} (hp : Wp P) {i : Nat} (h : i < 12) : P 18 i = some (20 + 8 * i) ∧ OB NT (20 + 8 * i) 3 := by
  have h1 : (decide (PT 18 i = some (20 + 8 * i)) && okOB (20 + 8 * i) 3) = true := all_lt (p := fun i => decide (PT 18 i = some (20 + 8 * i)) && okOB (20 + 8 * i) 3) (by decide +kernel) i h
  simp only [Bool.and_eq_true, decide_eq_true_eq] at h1
  exact ⟨(hp 18 i (fun q => absurd q.1 (by decide +kernel))).trans h1.1, OB_of h1.2⟩
theorem ar_al : AR NT 18 15 12 := AR_of (by decide +kernel)
theorem gr_ag {P : Nat → Nat → Option Nat} (hp : Wp P) {i : Nat} (h : i < 12) : P 19 i = some (26 + 8 * i) ∧ OB NT (26 + 8 * i) 7 := by
  have h1 : (decide (PT 19 i = some (26 + 8 * i)) && okOB (26 + 8 * i) 7) = true := all_lt (p := fun i => decide (PT 19 i = some (26 + 8 * i)) && okOB (26 + 8 * i) 7) (by decide +kernel) i h
  simp only [Bool.and_eq_true, decide_eq_true_eq] at h1
  exact ⟨(hp 19 i (fun q => absurd q.1 (by decide +kernel))).trans h1.1, OB_of h1.2⟩
theorem ar_ag : AR NT 19 16 12 := AR_of (by decide +kernel)
theorem gr_ob {P : Nat → Nat → Option Nat} (hp : Wp P) {i : Nat} (h : i < 7) : P 158 i = some (159 + 6 * i) ∧ OB NT (159 + 6 * i) 3 := by
  have h1 : (decide (PT 158 i = some (159 + 6 * i)) && okOB (159 + 6 * i) 3) = true := all_lt (p := fun i => decide (PT 158 i = some (159 + 6 * i)) && okOB (159 + 6 * i) 3) (by decide +kernel) i h
  simp only [Bool.and_eq_true, decide_eq_true_eq] at h1
  exact ⟨(hp 158 i (fun q => absurd q.1 (by decide +kernel))).trans h1.1, OB_of h1.2⟩
theorem ar_ob : AR NT 158 15 7 := AR_of (by decide +kernel)
def TX (c : Nat) : Prop := c = 5 ∨ c = 6
theorem f_X11_9 : FLR RX11 9 10 0 := ⟨cf10, by decide, w_368, by decide +kernel, fun _ => ⟨rfl, rfl⟩⟩
theorem f_X11_13 : FLI RX11 13 10 1 := ⟨cf10, by decide, w_369, by decide +kernel⟩
theorem f_X11_17 : FLI RX11 17 10 2 := ⟨cf10, by decide, w_370, by decide +kernel⟩
theorem f_X11_23 : FLR RX11 23 10 3 := ⟨cf10, by decide, w_371, by decide +kernel, fun _ => ⟨rfl, rfl⟩⟩
theorem f_X11_30 : FLR RX11 30 10 4 := ⟨cf10, by decide, w_372, by decide +kernel, fun _ => ⟨rfl, rfl⟩⟩
theorem f_X11_37 : FLR RX11 37 10 5 := ⟨cf10, by decide, w_373, by decide +kernel, fun _ => ⟨rfl, rfl⟩⟩
theorem f_X11_44 : FLR RX11 44 10 6 := ⟨cf10, by decide, w_374, by decide +kernel, fun _ => ⟨rfl, rfl⟩⟩
theorem f_X11_48 : FLR RX11 48 10 7 := ⟨cf10, by decide, w_375, by decide +kernel, fun _ => ⟨rfl, rfl⟩⟩
theorem f_X11_51 : FLR RX11 51 10 8 := ⟨cf10, by decide, w_376, by decide +kernel, fun _ => ⟨rfl, rfl⟩⟩
theorem f_X11_54 : FLR RX11 54 10 9 := ⟨cf10, by decide, w_377, by decide +kernel, fun _ => ⟨rfl, rfl⟩⟩
theorem f_X11_57 : FLI RX11 57 10 10 := ⟨cf10, by decide, w_378, by decide +kernel⟩
theorem f_X11_61 : FLR RX11 61 10 11 := ⟨cf10, by decide, w_379, by decide +kernel, fun _ => ⟨rfl, rfl⟩⟩
theorem f_X11_67 : FLR RX11 67 10 12 := ⟨cf10, by decide, w_380, by decide +kernel, fun _ => ⟨rfl, rfl⟩⟩
theorem f_X11_74 : FLR RX11 74 10 13 := ⟨cf10, by decide, w_381, by decide +kernel, fun _ => ⟨rfl, rfl⟩⟩
theorem f_X11_81 : FLR RX11 81 10 14 := ⟨cf10, by decide, w_382, by decide +kernel, fun _ => ⟨rfl, rfl⟩⟩
theorem f_X11_88 : FLR RX11 88 10 15 := ⟨cf10, by decide, w_383, by decide +kernel, fun _ => ⟨rfl, rfl⟩⟩
theorem f_X11_95 : FLR RX11 95 10 16 := ⟨cf10, by decide, w_384, by decide +kernel, fun _ => ⟨rfl, rfl⟩⟩
theorem f_X11_103 : FLR RX11 103 6 5 := ⟨cf6, by decide, w_271, by decide +kernel, fun _ => ⟨rfl, rfl⟩⟩
theorem f_X11_125 : FLI RX11 125 3 1 := ⟨cf3, by decide, w_84, by decide +kernel⟩
theorem f_X11_136 : FLR RX11 136 5 5 := ⟨cf5, by decide, w_299, by decide +kernel, fun _ => ⟨rfl, rfl⟩⟩
theorem f_X11_145 : FLI RX11 145 4 0 := ⟨cf4, by decide, w_166, by decide +kernel⟩
theorem f_X11_148 : FLR RX11 148 3 0 := ⟨cf3, by decide, w_82, by decide +kernel, fun _ => ⟨rfl, rfl⟩⟩
theorem f_X11_168 : FLR RX11 168 1 1 := ⟨cf1, by decide, w_57, by decide +kernel, fun _ => ⟨rfl, rfl⟩⟩
theorem f_X11_171 : FLR RX11 171 1 2 := ⟨cf1, by decide, w_60, by decide +kernel, fun _ => ⟨rfl, rfl⟩⟩
theorem f_X11_174 : FLR RX11 174 1 3 := ⟨cf1, by decide, w_63, by decide +kernel, fun _ => ⟨rfl, rfl⟩⟩
theorem f_X11_177 : FLR RX11 177 1 4 := ⟨cf1, by decide, w_66, by decide +kernel, fun _ => ⟨rfl, rfl⟩⟩
theorem f_X11_180 : FLI RX11 180 3 7 := ⟨cf3, by decide, w_104, by decide +kernel⟩
theorem f_X11_202 : FLI RX11 202 9 1 := ⟨cf9, by decide, w_242, by decide +kernel⟩
theorem f_X11_205 : FLI RX11 205 9 2 := ⟨cf9, by decide, w_246, by decide +kernel⟩
theorem f_X11_211 : FLI RX11 211 1 0 := ⟨cf1, by decide, w_53, by decide +kernel⟩
theorem f_X11_220 : FLI RX11 220 3 4 := ⟨cf3, by decide, w_95, by decide +kernel⟩
theorem f_X11_236 : FLI RX11 236 3 6 := ⟨cf3, by decide, w_100, by decide +kernel⟩
theorem f_X11_239 : FLI RX11 239 9 0 := ⟨cf9, by decide, w_238, by decide +kernel⟩
theorem f_X11_242 : FLI RX11 242 3 3 := ⟨cf3, by decide, w_91, by decide +kernel⟩
theorem f_X11_252 : FLI RX11 252 3 2 := ⟨cf3, by decide, w_88, by decide +kernel⟩
theorem f_X11_274 : FLI RX11 274 3 11 := ⟨cf3, by decide, w_119, by decide +kernel⟩
theorem f_X11_280 : FLI RX11 280 3 10 := ⟨cf3, by decide, w_115, by decide +kernel⟩
theorem f_X11_322 : FLI RX11 322 8 0 := ⟨cf8, by decide, w_326, by decide +kernel⟩
theorem f_X11_360 : FLI RX11 360 2 0 := ⟨cf2, by decide, w_349, by decide +kernel⟩
theorem f_X11_373 : FLI RX11 373 3 8 := ⟨cf3, by decide, w_108, by decide +kernel⟩
theorem f_X11_376 : FLI RX11 376 3 9 := ⟨cf3, by decide, w_112, by decide +kernel⟩
theorem f_X11_389 : FLI RX11 389 3 14 := ⟨cf3, by decide, w_127, by decide +kernel⟩
theorem f_X11_396 : FLI RX11 396 3 13 := ⟨cf3, by decide, w_125, by decide +kernel⟩
theorem f_X11_420 : FLI RX11 420 3 5 := ⟨cf3, by decide, w_98, by decide +kernel⟩
theorem f_X11_423 : FLI RX11 423 3 12 := ⟨cf3, by decide, w_123, by decide +kernel⟩
theorem f_X11_426 : FLI RX11 426 7 0 := ⟨cf7, by decide, w_195, by decide +kernel⟩
theorem f_X11_429 : FLI RX11 429 0 0 := ⟨cf0, by decide, w_218, by decide +kernel⟩
theorem f_X0_7 : FLI RX0 7 0 0 := ⟨cf0, by decide, w_217, by decide +kernel⟩
theorem f_X0_13 : FLI RX0 13 0 1 := ⟨cf0, by decide, w_219, by decide +kernel⟩
theorem f_X0_18 : FLR RX0 18 0 2 := ⟨cf0, by decide, w_220, by decide +kernel, fun _ => ⟨rfl, rfl⟩⟩
theorem f_X0_24 : FLR RX0 24 0 3 := ⟨cf0, by decide, w_221, by decide +kernel, fun _ => ⟨rfl, rfl⟩⟩
theorem f_X1_9 : FLI RX1 9 1 0 := ⟨cf1, by decide, w_49, by decide +kernel⟩
theorem f_X1_15 : FLR RX1 15 1 1 := ⟨cf1, by decide, w_54, by decide +kernel, fun _ => ⟨rfl, rfl⟩⟩
theorem f_X1_19 : FLR RX1 19 1 2 := ⟨cf1, by decide, w_58, by decide +kernel, fun _ => ⟨rfl, rfl⟩⟩
theorem f_X1_22 : FLR RX1 22 1 3 := ⟨cf1, by decide, w_61, by decide +kernel, fun _ => ⟨rfl, rfl⟩⟩
theorem f_X1_25 : FLR RX1 25 1 4 := ⟨cf1, by decide, w_64, by decide +kernel, fun _ => ⟨rfl, rfl⟩⟩
theorem f_X2_9 : FLI RX2 9 2 0 := ⟨cf2, by decide, w_348, by decide +kernel⟩
theorem f_X2_15 : FLI RX2 15 2 1 := ⟨cf2, by decide, w_350, by decide +kernel⟩
theorem f_X2_18 : FLI RX2 18 2 2 := ⟨cf2, by decide, w_351, by decide +kernel⟩
theorem f_X2_21 : FLR RX2 21 2 3 := ⟨cf2, by decide, w_352, by decide +kernel, fun _ => ⟨rfl, rfl⟩⟩
theorem f_X2_25 : FLR RX2 25 2 4 := ⟨cf2, by decide, w_353, by decide +kernel, fun _ => ⟨rfl, rfl⟩⟩
theorem f_X2_28 : FLR RX2 28 2 5 := ⟨cf2, by decide, w_354, by decide +kernel, fun _ => ⟨rfl, rfl⟩⟩
theorem f_X2_37 : FLI RX2 37 1 0 := ⟨cf1, by decide, w_50, by decide +kernel⟩
theorem f_X2_50 : FLR RX2 50 1 1 := ⟨cf1, by decide, w_55, by decide +kernel, fun _ => ⟨rfl, rfl⟩⟩
theorem f_X3_12 : FLR RX3 12 3 0 := ⟨cf3, by decide, w_79, by decide +kernel, fun _ => ⟨rfl, rfl⟩⟩
theorem f_X3_18 : FLI RX3 18 3 1 := ⟨cf3, by decide, w_83, by decide +kernel⟩
theorem f_X3_22 : FLI RX3 22 3 2 := ⟨cf3, by decide, w_85, by decide +kernel⟩
theorem f_X3_25 : FLI RX3 25 3 3 := ⟨cf3, by decide, w_89, by decide +kernel⟩
theorem f_X3_28 : FLI RX3 28 3 4 := ⟨cf3, by decide, w_92, by decide +kernel⟩
theorem f_X3_31 : FLI RX3 31 3 5 := ⟨cf3, by decide, w_96, by decide +kernel⟩
theorem f_X3_34 : FLI RX3 34 3 6 := ⟨cf3, by decide, w_99, by decide +kernel⟩
theorem f_X3_37 : FLI RX3 37 3 7 := ⟨cf3, by decide, w_101, by decide +kernel⟩
theorem f_X3_40 : FLI RX3 40 3 8 := ⟨cf3, by decide, w_105, by decide +kernel⟩
theorem f_X3_43 : FLI RX3 43 3 9 := ⟨cf3, by decide, w_109, by decide +kernel⟩
theorem f_X3_46 : FLI RX3 46 3 10 := ⟨cf3, by decide, w_113, by decide +kernel⟩
theorem f_X3_49 : FLI RX3 49 3 11 := ⟨cf3, by decide, w_116, by decide +kernel⟩
theorem f_X3_52 : FLI RX3 52 3 12 := ⟨cf3, by decide, w_120, by decide +kernel⟩
theorem f_X3_55 : FLI RX3 55 3 13 := ⟨cf3, by decide, w_124, by decide +kernel⟩
theorem f_X3_58 : FLI RX3 58 3 14 := ⟨cf3, by decide, w_126, by decide +kernel⟩
theorem f_X3_77 : FLI RX3 77 9 2 := ⟨cf9, by decide, w_244, by decide +kernel⟩
theorem f_X3_86 : FLI RX3 86 9 1 := ⟨cf9, by decide, w_240, by decide +kernel⟩
theorem f_X3_92 : FLR RX3 92 9 3 := ⟨cf9, by decide, w_248, by decide +kernel, fun _ => ⟨rfl, rfl⟩⟩
theorem f_X3_108 : FLI RX3 108 1 0 := ⟨cf1, by decide, w_52, by decide +kernel⟩
theorem f_X4_9 : FLI RX4 9 4 0 := ⟨cf4, by decide, w_165, by decide +kernel⟩
theorem f_X4_15 : FLR RX4 15 4 1 := ⟨cf4, by decide, w_167, by decide +kernel, fun _ => ⟨rfl, rfl⟩⟩
theorem f_X4_19 : FLR RX4 19 4 2 := ⟨cf4, by decide, w_168, by decide +kernel, fun _ => ⟨rfl, rfl⟩⟩
theorem f_X4_22 : FLR RX4 22 4 3 := ⟨cf4, by decide, w_169, by decide +kernel, fun _ => ⟨rfl, rfl⟩⟩
theorem f_X4_25 : FLR RX4 25 4 4 := ⟨cf4, by decide, w_170, by decide +kernel, fun _ => ⟨rfl, rfl⟩⟩
theorem f_X4_28 : FLI RX4 28 4 5 := ⟨cf4, by decide, w_171, by decide +kernel⟩
theorem f_X4_31 : FLR RX4 31 4 6 := ⟨cf4, by decide, w_172, by decide +kernel, fun _ => ⟨rfl, rfl⟩⟩
theorem f_X4_38 : FLI RX4 38 9 2 := ⟨cf9, by decide, w_245, by decide +kernel⟩
theorem f_X4_43 : FLI RX4 43 9 1 := ⟨cf9, by decide, w_241, by decide +kernel⟩
theorem f_X4_57 : FLR RX4 57 9 3 := ⟨cf9, by decide, w_249, by decide +kernel, fun _ => ⟨rfl, rfl⟩⟩
theorem f_X5_14 : FLR RX5 14 5 5 := ⟨cf5, by decide, w_298, by decide +kernel, fun _ => ⟨rfl, rfl⟩⟩
theorem f_X5_18 : FLR RX5 18 5 6 := ⟨cf5, by decide, w_300, by decide +kernel, fun _ => ⟨rfl, rfl⟩⟩
theorem f_X5_22 : FLI RX5 22 5 7 := ⟨cf5, by decide, w_301, by decide +kernel⟩
theorem f_X5_26 : FLI RX5 26 5 8 := ⟨cf5, by decide, w_302, by decide +kernel⟩
theorem f_X6_12 : FLR RX6 12 6 5 := ⟨cf6, by decide, w_270, by decide +kernel, fun _ => ⟨rfl, rfl⟩⟩
theorem f_X6_24 : FLR RX6 24 3 0 := ⟨cf3, by decide, w_80, by decide +kernel, fun _ => ⟨rfl, rfl⟩⟩
theorem f_X6_28 : FLI RX6 28 1 0 := ⟨cf1, by decide, w_51, by decide +kernel⟩
theorem f_X6_49 : FLI RX6 49 3 2 := ⟨cf3, by decide, w_86, by decide +kernel⟩
theorem f_X6_51 : FLI RX6 51 3 3 := ⟨cf3, by decide, w_90, by decide +kernel⟩
theorem f_X6_56 : FLI RX6 56 3 7 := ⟨cf3, by decide, w_103, by decide +kernel⟩
theorem f_X6_60 : FLI RX6 60 3 10 := ⟨cf3, by decide, w_114, by decide +kernel⟩
theorem f_X6_64 : FLI RX6 64 3 11 := ⟨cf3, by decide, w_118, by decide +kernel⟩
theorem f_X6_68 : FLI RX6 68 3 12 := ⟨cf3, by decide, w_122, by decide +kernel⟩
theorem f_X6_72 : FLI RX6 72 3 8 := ⟨cf3, by decide, w_106, by decide +kernel⟩
theorem f_X6_75 : FLI RX6 75 3 9 := ⟨cf3, by decide, w_110, by decide +kernel⟩
theorem f_X6_85 : FLR RX6 85 1 1 := ⟨cf1, by decide, w_56, by decide +kernel, fun _ => ⟨rfl, rfl⟩⟩
theorem f_X7_9 : FLI RX7 9 7 0 := ⟨cf7, by decide, w_194, by decide +kernel⟩
theorem f_X7_15 : FLI RX7 15 7 1 := ⟨cf7, by decide, w_196, by decide +kernel⟩
theorem f_X7_18 : FLR RX7 18 7 2 := ⟨cf7, by decide, w_197, by decide +kernel, fun _ => ⟨rfl, rfl⟩⟩
theorem f_X8_9 : FLI RX8 9 8 0 := ⟨cf8, by decide, w_325, by decide +kernel⟩
theorem f_X8_15 : FLI RX8 15 8 1 := ⟨cf8, by decide, w_327, by decide +kernel⟩
theorem f_X8_18 : FLR RX8 18 8 2 := ⟨cf8, by decide, w_328, by decide +kernel, fun _ => ⟨rfl, rfl⟩⟩
theorem f_X8_22 : FLR RX8 22 8 3 := ⟨cf8, by decide, w_329, by decide +kernel, fun _ => ⟨rfl, rfl⟩⟩
theorem f_X8_27 : FLR RX8 27 8 4 := ⟨cf8, by decide, w_330, by decide +kernel, fun _ => ⟨rfl, rfl⟩⟩
theorem f_X8_48 : FLI RX8 48 3 4 := ⟨cf3, by decide, w_93, by decide +kernel⟩
theorem f_X9_9 : FLI RX9 9 9 0 := ⟨cf9, by decide, w_237, by decide +kernel⟩
theorem f_X9_15 : FLI RX9 15 9 1 := ⟨cf9, by decide, w_239, by decide +kernel⟩
theorem f_X9_18 : FLI RX9 18 9 2 := ⟨cf9, by decide, w_243, by decide +kernel⟩
theorem f_X9_21 : FLR RX9 21 9 3 := ⟨cf9, by decide, w_247, by decide +kernel, fun _ => ⟨rfl, rfl⟩⟩
theorem f_X9_25 : FLI RX9 25 3 12 := ⟨cf3, by decide, w_121, by decide +kernel⟩
theorem f_X9_30 : FLR RX9 30 3 0 := ⟨cf3, by decide, w_81, by decide +kernel, fun _ => ⟨rfl, rfl⟩⟩
theorem f_X9_34 : FLI RX9 34 3 7 := ⟨cf3, by decide, w_102, by decide +kernel⟩
theorem f_X9_43 : FLI RX9 43 3 4 := ⟨cf3, by decide, w_94, by decide +kernel⟩
theorem f_X9_46 : FLI RX9 46 3 5 := ⟨cf3, by decide, w_97, by decide +kernel⟩
theorem f_X9_53 : FLI RX9 53 3 2 := ⟨cf3, by decide, w_87, by decide +kernel⟩
theorem f_X9_56 : FLI RX9 56 3 11 := ⟨cf3, by decide, w_117, by decide +kernel⟩
theorem f_X9_66 : FLR RX9 66 1 2 := ⟨cf1, by decide, w_59, by decide +kernel, fun _ => ⟨rfl, rfl⟩⟩
theorem f_X9_69 : FLR RX9 69 1 4 := ⟨cf1, by decide, w_65, by decide +kernel, fun _ => ⟨rfl, rfl⟩⟩
theorem f_X9_72 : FLR RX9 72 1 3 := ⟨cf1, by decide, w_62, by decide +kernel, fun _ => ⟨rfl, rfl⟩⟩
theorem f_X9_75 : FLI RX9 75 3 8 := ⟨cf3, by decide, w_107, by decide +kernel⟩
theorem f_X9_78 : FLI RX9 78 3 9 := ⟨cf3, by decide, w_111, by decide +kernel⟩
theorem f_X10_9_5 : FLR RX10 9 5 0 := ⟨cf5, by decide, w_272, by decide +kernel, fun _ => ⟨rfl, rfl⟩⟩
theorem f_X10_9_6 : FLR RX10 9 6 0 := ⟨cf6, by decide, w_272, by decide +kernel, fun _ => ⟨rfl, rfl⟩⟩
theorem f_X10_9 {c : Nat} (h : TX c) : FLR RX10 9 c 0 := by rcases h with rfl | rfl; exact f_X10_9_5; exact f_X10_9_6
theorem f_X10_15_5 : FLI RX10 15 5 1 := ⟨cf5, by decide, w_273, by decide +kernel⟩
theorem f_X10_15_6 : FLI RX10 15 6 1 := ⟨cf6, by decide, w_273, by decide +kernel⟩
theorem f_X10_15 {c : Nat} (h : TX c) : FLI RX10 15 c 1 := by rcases h with rfl | rfl; exact f_X10_15_5; exact f_X10_15_6
theorem f_X10_19_5 : FLI RX10 19 5 2 := ⟨cf5, by decide, w_274, by decide +kernel⟩
theorem f_X10_19_6 : FLI RX10 19 6 2 := ⟨cf6, by decide, w_274, by decide +kernel⟩
theorem f_X10_19 {c : Nat} (h : TX c) : FLI RX10 19 c 2 := by rcases h with rfl | rfl; exact f_X10_19_5; exact f_X10_19_6
theorem f_X10_22_5 : FLI RX10 22 5 3 := ⟨cf5, by decide, w_275, by decide +kernel⟩
theorem f_X10_22_6 : FLI RX10 22 6 3 := ⟨cf6, by decide, w_275, by decide +kernel⟩
theorem f_X10_22 {c : Nat} (h : TX c) : FLI RX10 22 c 3 := by rcases h with rfl | rfl; exact f_X10_22_5; exact f_X10_22_6
theorem f_X10_25_5 : FLI RX10 25 5 4 := ⟨cf5, by decide, w_276, by decide +kernel⟩
theorem f_X10_25_6 : FLI RX10 25 6 4 := ⟨cf6, by decide, w_276, by decide +kernel⟩
theorem f_X10_25 {c : Nat} (h : TX c) : FLI RX10 25 c 4 := by rcases h with rfl | rfl; exact f_X10_25_5; exact f_X10_25_6
theorem f_X12_3 : FLI RX12 3 11 0 := ⟨cf11, by decide, w_1376, by decide +kernel⟩
theorem f_X12_13 : FLR RX12 13 11 1 := ⟨cf11, by decide, w_1377, by decide +kernel, fun _ => ⟨rfl, rfl⟩⟩
theorem f_X12_17 : FLR RX12 17 11 2 := ⟨cf11, by decide, w_1378, by decide +kernel, fun _ => ⟨rfl, rfl⟩⟩
theorem f_X12_20 : FLR RX12 20 11 3 := ⟨cf11, by decide, w_1379, by decide +kernel, fun _ => ⟨rfl, rfl⟩⟩
theorem f_X12_23 : FLR RX12 23 11 4 := ⟨cf11, by decide, w_1380, by decide +kernel, fun _ => ⟨rfl, rfl⟩⟩
theorem f_X12_26 : FLR RX12 26 11 5 := ⟨cf11, by decide, w_1381, by decide +kernel, fun _ => ⟨rfl, rfl⟩⟩
theorem f_X12_29 : FLR RX12 29 11 8 := ⟨cf11, by decide, w_1384, by decide +kernel, fun _ => ⟨rfl, rfl⟩⟩
theorem f_X12_33 : FLI RX12 33 11 14 := ⟨cf11, by decide, w_1390, by decide +kernel⟩
theorem f_X12_36 : FLR RX12 36 11 15 := ⟨cf11, by decide, w_1391, by decide +kernel, fun _ => ⟨rfl, rfl⟩⟩
theorem f_X12_39 : FLR RX12 39 11 17 := ⟨cf11, by decide, w_1393, by decide +kernel, fun _ => ⟨rfl, rfl⟩⟩
theorem f_X12_42 : FLR RX12 42 11 18 := ⟨cf11, by decide, w_1394, by decide +kernel, fun _ => ⟨rfl, rfl⟩⟩
theorem f_X12_45 : FLR RX12 45 11 19 := ⟨cf11, by decide, w_1395, by decide +kernel, fun _ => ⟨rfl, rfl⟩⟩
theorem f_X12_48 : FLR RX12 48 11 20 := ⟨cf11, by decide, w_1396, by decide +kernel, fun _ => ⟨rfl, rfl⟩⟩
theorem f_X12_51 : FLR RX12 51 11 21 := ⟨cf11, by decide, w_1397, by decide +kernel, fun _ => ⟨rfl, rfl⟩⟩
theorem f_X12_55 : FLI RX12 55 11 6 := ⟨cf11, by decide, w_1382, by decide +kernel⟩
theorem f_X12_59 : FLI RX12 59 11 7 := ⟨cf11, by decide, w_1383, by decide +kernel⟩
theorem f_X12_78 : FLI RX12 78 11 9 := ⟨cf11, by decide, w_1385, by decide +kernel⟩
theorem f_X12_81 : FLI RX12 81 11 10 := ⟨cf11, by decide, w_1386, by decide +kernel⟩
theorem f_X12_84 : FLI RX12 84 11 11 := ⟨cf11, by decide, w_1387, by decide +kernel⟩
theorem f_X12_91 : FLI RX12 91 11 12 := ⟨cf11, by decide, w_1388, by decide +kernel⟩
theorem f_X12_164 : FLI RX12 164 11 16 := ⟨cf11, by decide, w_1392, by decide +kernel⟩
theorem f_X12_194 : FLI RX12 194 11 13 := ⟨cf11, by decide, w_1389, by decide +kernel⟩
theorem v_X0_30 : VF RX0 30 3 mX3_copy 1 := ⟨⟨w_460, w_461, w_462, w_2, w_463⟩, rfl, ⟨rfl, by decide, by decide, by decide +kernel⟩, by decide⟩
theorem v_X0_34 : VF RX0 34 7 mX7_copy 1 := ⟨⟨w_471, w_472, w_473, w_5, w_474⟩, rfl, ⟨rfl, by decide, by decide, by decide +kernel⟩, by decide⟩
theorem v_X1_28 : VF RX1 28 1 mX1_has 1 := ⟨⟨w_501, w_502, w_503, w_3, w_504⟩, rfl, ⟨rfl, by decide, by decide, by decide +kernel⟩, by decide⟩
theorem v_X1_32 : VF RX1 32 1 mX1_firstIn 2 := ⟨⟨w_448, w_449, w_450, w_3, w_451⟩, rfl, ⟨rfl, by decide, by decide, by decide +kernel⟩, by decide⟩
theorem v_X1_36 : VF RX1 36 1 mX1_isHad 1 := ⟨⟨w_550, w_498, w_499, w_3, w_500⟩, rfl, ⟨rfl, by decide, by decide, by decide +kernel⟩, by decide⟩
theorem v_X1_39 : VF RX1 39 1 mX1_distance 2 := ⟨⟨w_551, w_552, w_553, w_3, w_554⟩, rfl, ⟨rfl, by decide, by decide, by decide +kernel⟩, by decide⟩
theorem v_X1_42 : VF RX1 42 1 mX1_inAge 1 := ⟨⟨w_1162, w_1163, w_1164, w_3, w_1165⟩, rfl, ⟨rfl, by decide, by decide, by decide +kernel⟩, by decide⟩
theorem v_X1_46 : VF RX1 46 1 mX1_hadAt 1 := ⟨⟨w_1209, w_1210, w_1211, w_3, w_1212⟩, rfl, ⟨rfl, by decide, by decide, by decide +kernel⟩, by decide⟩
theorem v_X1_49 : VF RX1 49 1 mX1_tell 4 := ⟨⟨w_858, w_859, w_860, w_3, w_861⟩, rfl, ⟨rfl, by decide, by decide, by decide +kernel⟩, by decide⟩
theorem s_X2_42 : SF RX2 42 mX2_farFrom 4 := ⟨⟨w_1253, w_1254, w_12, w_1255⟩, ⟨by decide, by decide, by decide +kernel⟩, by decide⟩
theorem v_X2_46 : VF RX2 46 2 mX2_goOn 3 := ⟨⟨w_1256, w_1258, sp_30, w_12, w_1259⟩, rfl, ⟨rfl, by decide, by decide, by decide +kernel⟩, by decide⟩
theorem v_X2_59 : VF RX2 59 2 mX2_isWorthwhile 2 := ⟨⟨w_1261, w_1263, sp_31, w_12, w_1264⟩, rfl, ⟨rfl, by decide, by decide, by decide +kernel⟩, by decide⟩
theorem v_X3_61 : VF RX3 61 1 mX1_has 1 := ⟨⟨w_1136, w_502, w_503, w_3, w_504⟩, rfl, ⟨rfl, by decide, by decide, by decide +kernel⟩, by decide⟩
theorem v_X3_65 : VF RX3 65 9 mX9_put 2 := ⟨⟨w_1064, w_543, w_544, w_7, w_545⟩, rfl, ⟨rfl, by decide, by decide, by decide +kernel⟩, by decide⟩
theorem v_X3_71 : VF RX3 71 4 mX4_weigh 1 := ⟨⟨w_1065, w_562, w_563, w_4, w_564⟩, rfl, ⟨rfl, by decide, by decide, by decide +kernel⟩, by decide⟩
theorem v_X3_96 : VF RX3 96 1 mX1_isHad 1 := ⟨⟨w_1067, w_498, w_499, w_3, w_500⟩, rfl, ⟨rfl, by decide, by decide, by decide +kernel⟩, by decide⟩
theorem v_X3_99 : VF RX3 99 1 mX1_tell 4 := ⟨⟨w_1068, w_859, w_860, w_3, w_861⟩, rfl, ⟨rfl, by decide, by decide, by decide +kernel⟩, by decide⟩
theorem v_X3_104 : VF RX3 104 3 mX3_draw 0 := ⟨⟨w_1127, w_489, w_490, w_2, w_491⟩, rfl, ⟨rfl, by decide, by decide, by decide +kernel⟩, by decide⟩
theorem v_X3_111 : VF RX3 111 1 mX1_copy 1 := ⟨⟨w_464, w_465, w_466, w_3, w_467⟩, rfl, ⟨rfl, by decide, by decide, by decide +kernel⟩, by decide⟩
theorem v_X4_34 : VF RX4 34 4 mX4_holds 2 := ⟨⟨w_565, w_567, sp_3, w_4, w_568⟩, rfl, ⟨rfl, by decide, by decide, by decide +kernel⟩, by decide⟩
theorem v_X4_46 : VF RX4 46 4 mX4_step 3 := ⟨⟨w_569, w_571, sp_4, w_4, w_572⟩, rfl, ⟨rfl, by decide, by decide, by decide +kernel⟩, by decide⟩
theorem v_X4_50 : VF RX4 50 4 mX4_push 3 := ⟨⟨w_573, w_575, sp_5, w_4, w_576⟩, rfl, ⟨rfl, by decide, by decide, by decide +kernel⟩, by decide⟩
theorem s_X4_53 : SF RX4 53 mX4_join 3 := ⟨⟨w_577, w_578, w_4, w_579⟩, ⟨by decide, by decide, by decide +kernel⟩, by decide⟩
theorem v_X5_29 : VF RX5 29 5 mX5_kindHere 0 := ⟨⟨w_666, w_668, sp_7, w_10, w_669⟩, rfl, ⟨rfl, by decide, by decide, by decide +kernel⟩, by decide⟩
theorem v_X5_46 : VF RX5 46 5 mX5_readCondition 0 := ⟨⟨w_744, w_746, sp_8, w_10, w_747⟩, rfl, ⟨rfl, by decide, by decide, by decide +kernel⟩, by decide⟩
theorem v_X5_50 : VF RX5 50 4 mX4_endLine 2 := ⟨⟨w_814, w_815, w_816, w_4, w_817⟩, rfl, ⟨rfl, by decide, by decide, by decide +kernel⟩, by decide⟩
theorem v_X5_60 : VF RX5 60 5 mX5_openingHere 0 := ⟨⟨w_748, w_750, sp_9, w_10, w_751⟩, rfl, ⟨rfl, by decide, by decide, by decide +kernel⟩, by decide⟩
theorem v_X5_63 : VF RX5 63 5 mX5_putOff 1 := ⟨⟨w_759, w_761, sp_10, w_10, w_762⟩, rfl, ⟨rfl, by decide, by decide, by decide +kernel⟩, by decide⟩
theorem v_X5_67 : VF RX5 67 5 mX5_readState 0 := ⟨⟨w_763, w_765, sp_11, w_10, w_766⟩, rfl, ⟨rfl, by decide, by decide, by decide +kernel⟩, by decide⟩
theorem v_X5_70 : VF RX5 70 5 mX5_readComparison 0 := ⟨⟨w_778, w_780, sp_13, w_10, w_781⟩, rfl, ⟨rfl, by decide, by decide, by decide +kernel⟩, by decide⟩
theorem v_X5_73 : VF RX5 73 5 mX5_closeBrackets 0 := ⟨⟨w_800, w_802, sp_16, w_10, w_803⟩, rfl, ⟨rfl, by decide, by decide, by decide +kernel⟩, by decide⟩
theorem v_X5_76 : VF RX5 76 5 mX5_joiningHere 0 := ⟨⟨w_808, w_810, sp_18, w_10, w_811⟩, rfl, ⟨rfl, by decide, by decide, by decide +kernel⟩, by decide⟩
theorem v_X5_79 : VF RX5 79 5 mX5_settle 1 := ⟨⟨w_804, w_806, sp_17, w_10, w_807⟩, rfl, ⟨rfl, by decide, by decide, by decide +kernel⟩, by decide⟩
theorem v_X5_92 : VF RX5 92 4 mX4_add 1 := ⟨⟨w_774, w_775, w_776, w_4, w_777⟩, rfl, ⟨rfl, by decide, by decide, by decide +kernel⟩, by decide⟩
theorem v_X5_95 : VF RX5 95 5 mX5_stateHere 0 := ⟨⟨w_767, w_769, sp_12, w_10, w_770⟩, rfl, ⟨rfl, by decide, by decide, by decide +kernel⟩, by decide⟩
theorem v_X5_106 : VF RX5 106 5 mX5_readSum 0 := ⟨⟨w_782, w_784, sp_14, w_10, w_785⟩, rfl, ⟨rfl, by decide, by decide, by decide +kernel⟩, by decide⟩
theorem v_X5_112 : VF RX5 112 5 mX5_valueHere 0 := ⟨⟨w_790, w_792, sp_15, w_10, w_793⟩, rfl, ⟨rfl, by decide, by decide, by decide +kernel⟩, by decide⟩
theorem v_X6_34 : VF RX6 34 6 mX6_readDish 0 := ⟨⟨w_825, w_827, sp_19, w_9, w_828⟩, rfl, ⟨rfl, by decide, by decide, by decide +kernel⟩, by decide⟩
theorem v_X6_40 : VF RX6 40 6 mX6_readWar 0 := ⟨⟨w_863, w_865, sp_21, w_9, w_866⟩, rfl, ⟨rfl, by decide, by decide, by decide +kernel⟩, by decide⟩
theorem v_X6_95 : VF RX6 95 6 mX6_readFirst 0 := ⟨⟨w_845, w_847, sp_20, w_9, w_848⟩, rfl, ⟨rfl, by decide, by decide, by decide +kernel⟩, by decide⟩
theorem v_X6_98 : VF RX6 98 1 mX1_add 3 := ⟨⟨w_854, w_855, w_856, w_3, w_857⟩, rfl, ⟨rfl, by decide, by decide, by decide +kernel⟩, by decide⟩
theorem v_X7_28 : VF RX7 28 7 mX7_read 2 := ⟨⟨w_1349, w_1350, w_1351, w_5, w_1352⟩, rfl, ⟨rfl, by decide, by decide, by decide +kernel⟩, by decide⟩
theorem s_X8_32 : SF RX8 32 mJ6_bitCount_0f7a4 1 := ⟨⟨w_1178, w_525, w_28, w_526⟩, ⟨by decide, by decide, by decide +kernel⟩, by decide⟩
theorem v_X8_44 : VF RX8 44 3 mX3_copy 1 := ⟨⟨w_1180, w_461, w_462, w_2, w_463⟩, rfl, ⟨rfl, by decide, by decide, by decide +kernel⟩, by decide⟩
theorem v_X8_51 : VF RX8 51 8 mX8_goOn 5 := ⟨⟨w_1181, w_1183, sp_26, w_11, w_1184⟩, rfl, ⟨rfl, by decide, by decide, by decide +kernel⟩, by decide⟩
theorem v_X8_61 : VF RX8 61 3 mX3_takes 1 := ⟨⟨w_1186, w_1133, w_1134, w_2, w_1135⟩, rfl, ⟨rfl, by decide, by decide, by decide +kernel⟩, by decide⟩
theorem v_X8_65 : VF RX8 65 3 mX3_bite 3 := ⟨⟨w_1187, w_1061, w_1062, w_2, w_1063⟩, rfl, ⟨rfl, by decide, by decide, by decide +kernel⟩, by decide⟩
theorem v_X9_37 : VF RX9 37 1 mX1_calledUp 2 := ⟨⟨w_546, w_547, w_548, w_3, w_549⟩, rfl, ⟨rfl, by decide, by decide, by decide +kernel⟩, by decide⟩
theorem v_X9_49 : VF RX9 49 1 mX1_isHad 1 := ⟨⟨w_555, w_498, w_499, w_3, w_500⟩, rfl, ⟨rfl, by decide, by decide, by decide +kernel⟩, by decide⟩
theorem v_X9_59 : VF RX9 59 1 mX1_has 1 := ⟨⟨w_556, w_502, w_503, w_3, w_504⟩, rfl, ⟨rfl, by decide, by decide, by decide +kernel⟩, by decide⟩
theorem v_X9_62 : VF RX9 62 9 mX9_putCalled 1 := ⟨⟨w_557, w_559, sp_2, w_7, w_560⟩, rfl, ⟨rfl, by decide, by decide, by decide +kernel⟩, by decide⟩
theorem v_X11_99 : VF RX11 99 10 mX11_putBytes 1 := ⟨⟨w_424, w_426, sp_0, w_1, w_427⟩, rfl, ⟨rfl, by decide, by decide, by decide +kernel⟩, by decide⟩
theorem v_X11_106 : VF RX11 106 3 mX3_copy 1 := ⟨⟨w_610, w_461, w_462, w_2, w_463⟩, rfl, ⟨rfl, by decide, by decide, by decide +kernel⟩, by decide⟩
theorem v_X11_110 : VF RX11 110 10 mX11_takeTape 0 := ⟨⟨w_638, w_640, sp_6, w_1, w_641⟩, rfl, ⟨rfl, by decide, by decide, by decide +kernel⟩, by decide⟩
theorem v_X11_133 : VF RX11 133 0 mX0_clear 0 := ⟨⟨w_621, w_622, w_623, w_6, w_624⟩, rfl, ⟨rfl, by decide, by decide, by decide +kernel⟩, by decide⟩
theorem v_X11_138 : VF RX11 138 4 mX4_clear 0 := ⟨⟨w_967, w_968, w_969, w_4, w_970⟩, rfl, ⟨rfl, by decide, by decide, by decide +kernel⟩, by decide⟩
theorem v_X11_142 : VF RX11 142 4 mX4_copy 1 := ⟨⟨w_611, w_612, w_613, w_4, w_614⟩, rfl, ⟨rfl, by decide, by decide, by decide +kernel⟩, by decide⟩
theorem v_X11_152 : VF RX11 152 1 mX1_has 1 := ⟨⟨w_984, w_502, w_503, w_3, w_504⟩, rfl, ⟨rfl, by decide, by decide, by decide +kernel⟩, by decide⟩
theorem v_X11_183 : VF RX11 183 1 mX1_calledUp 2 := ⟨⟨w_1017, w_547, w_548, w_3, w_549⟩, rfl, ⟨rfl, by decide, by decide, by decide +kernel⟩, by decide⟩
theorem v_X11_187 : VF RX11 187 10 mX11_turnsNow 1 := ⟨⟨w_538, w_540, sp_1, w_1, w_541⟩, rfl, ⟨rfl, by decide, by decide, by decide +kernel⟩, by decide⟩
theorem v_X11_191 : VF RX11 191 10 mX11_paysNow 1 := ⟨⟨w_1018, w_1020, sp_23, w_1, w_1021⟩, rfl, ⟨rfl, by decide, by decide, by decide +kernel⟩, by decide⟩
theorem v_X11_194 : VF RX11 194 9 mX9_put 2 := ⟨⟨w_542, w_543, w_544, w_7, w_545⟩, rfl, ⟨rfl, by decide, by decide, by decide +kernel⟩, by decide⟩
theorem v_X11_198 : VF RX11 198 4 mX4_weigh 1 := ⟨⟨w_561, w_562, w_563, w_4, w_564⟩, rfl, ⟨rfl, by decide, by decide, by decide +kernel⟩, by decide⟩
theorem v_X11_208 : VF RX11 208 1 mX1_distance 2 := ⟨⟨w_584, w_552, w_553, w_3, w_554⟩, rfl, ⟨rfl, by decide, by decide, by decide +kernel⟩, by decide⟩
theorem v_X11_214 : VF RX11 214 1 mX1_all 0 := ⟨⟨w_440, w_441, w_442, w_3, w_443⟩, rfl, ⟨rfl, by decide, by decide, by decide +kernel⟩, by decide⟩
theorem v_X11_217 : VF RX11 217 1 mX1_allHad 0 := ⟨⟨w_444, w_445, w_446, w_3, w_447⟩, rfl, ⟨rfl, by decide, by decide, by decide +kernel⟩, by decide⟩
theorem v_X11_228 : VF RX11 228 0 mX0_remember 2 := ⟨⟨w_456, w_457, w_458, w_6, w_459⟩, rfl, ⟨rfl, by decide, by decide, by decide +kernel⟩, by decide⟩
theorem v_X11_232 : VF RX11 232 3 mX3_bite 3 := ⟨⟨w_1060, w_1061, w_1062, w_2, w_1063⟩, rfl, ⟨rfl, by decide, by decide, by decide +kernel⟩, by decide⟩
theorem v_X11_245 : VF RX11 245 7 mX7_write 4 := ⟨⟨w_1069, w_1070, w_1071, w_5, w_1072⟩, rfl, ⟨rfl, by decide, by decide, by decide +kernel⟩, by decide⟩
theorem v_X11_249 : VF RX11 249 3 mX3_comeBack 0 := ⟨⟨w_479, w_480, w_481, w_2, w_482⟩, rfl, ⟨rfl, by decide, by decide, by decide +kernel⟩, by decide⟩
theorem s_X11_255 : SF RX11 255 mX11_isPlace 1 := ⟨⟨w_1081, w_1082, w_1, w_1083⟩, ⟨by decide, by decide, by decide +kernel⟩, by decide⟩
theorem v_X11_262 : VF RX11 262 1 mX1_tell 4 := ⟨⟨w_1086, w_859, w_860, w_3, w_861⟩, rfl, ⟨rfl, by decide, by decide, by decide +kernel⟩, by decide⟩
theorem v_X11_265 : VF RX11 265 1 mX1_isHad 1 := ⟨⟨w_497, w_498, w_499, w_3, w_500⟩, rfl, ⟨rfl, by decide, by decide, by decide +kernel⟩, by decide⟩
theorem v_X11_277 : VF RX11 277 3 mX3_draw 0 := ⟨⟨w_488, w_489, w_490, w_2, w_491⟩, rfl, ⟨rfl, by decide, by decide, by decide +kernel⟩, by decide⟩
theorem v_X11_285 : VF RX11 285 10 mX11_passEvening 2 := ⟨⟨w_1119, w_1121, sp_24, w_1, w_1122⟩, rfl, ⟨rfl, by decide, by decide, by decide +kernel⟩, by decide⟩
theorem v_X11_289 : VF RX11 289 3 mX3_drawSpoons 0 := ⟨⟨w_1123, w_1124, w_1125, w_2, w_1126⟩, rfl, ⟨rfl, by decide, by decide, by decide +kernel⟩, by decide⟩
theorem v_X11_292 : VF RX11 292 3 mX3_drawDish 0 := ⟨⟨w_1128, w_1129, w_1130, w_2, w_1131⟩, rfl, ⟨rfl, by decide, by decide, by decide +kernel⟩, by decide⟩
theorem v_X11_295 : VF RX11 295 3 mX3_takes 1 := ⟨⟨w_1132, w_1133, w_1134, w_2, w_1135⟩, rfl, ⟨rfl, by decide, by decide, by decide +kernel⟩, by decide⟩
theorem v_X11_298 : VF RX11 298 10 mX11_toldAtMost 2 := ⟨⟨w_1144, w_1146, sp_25, w_1, w_1147⟩, rfl, ⟨rfl, by decide, by decide, by decide +kernel⟩, by decide⟩
theorem v_X11_308 : VF RX11 308 1 mX1_leastOfAge 1 := ⟨⟨w_1158, w_1159, w_1160, w_3, w_1161⟩, rfl, ⟨rfl, by decide, by decide, by decide +kernel⟩, by decide⟩
theorem s_X11_311 : SF RX11 311 mJ6_bitCount_0f7a4 1 := ⟨⟨w_524, w_525, w_28, w_526⟩, ⟨by decide, by decide, by decide +kernel⟩, by decide⟩
theorem v_X11_318 : VF RX11 318 8 mX8_search 4 := ⟨⟨w_1174, w_1175, w_1176, w_11, w_1177⟩, rfl, ⟨rfl, by decide, by decide, by decide +kernel⟩, by decide⟩
theorem v_X11_325 : VF RX11 325 8 mX8_nth 1 := ⟨⟨w_1189, w_1190, w_1191, w_11, w_1192⟩, rfl, ⟨rfl, by decide, by decide, by decide +kernel⟩, by decide⟩
theorem v_X11_328 : VF RX11 328 10 mX11_arePairs 1 := ⟨⟨w_1200, w_1202, sp_27, w_1, w_1203⟩, rfl, ⟨rfl, by decide, by decide, by decide +kernel⟩, by decide⟩
theorem v_X11_333 : VF RX11 333 1 mX1_companyIn 2 := ⟨⟨w_1205, w_1206, w_1207, w_3, w_1208⟩, rfl, ⟨rfl, by decide, by decide, by decide +kernel⟩, by decide⟩
theorem v_X11_338 : VF RX11 338 10 mX11_fitting 1 := ⟨⟨w_1221, w_1223, sp_28, w_1, w_1224⟩, rfl, ⟨rfl, by decide, by decide, by decide +kernel⟩, by decide⟩
theorem v_X11_341 : VF RX11 341 1 mX1_inDecade 1 := ⟨⟨w_1225, w_1226, w_1227, w_3, w_1228⟩, rfl, ⟨rfl, by decide, by decide, by decide +kernel⟩, by decide⟩
theorem v_X11_344 : VF RX11 344 10 mX11_greaterPart 2 := ⟨⟨w_1236, w_1238, sp_29, w_1, w_1239⟩, rfl, ⟨rfl, by decide, by decide, by decide +kernel⟩, by decide⟩
theorem v_X11_347 : VF RX11 347 1 mX1_firstIn 2 := ⟨⟨w_593, w_449, w_450, w_3, w_451⟩, rfl, ⟨rfl, by decide, by decide, by decide +kernel⟩, by decide⟩
theorem v_X11_357 : VF RX11 357 2 mX2_search 3 := ⟨⟨w_1248, w_1249, w_1250, w_12, w_1251⟩, rfl, ⟨rfl, by decide, by decide, by decide +kernel⟩, by decide⟩
theorem v_X11_361 : VF RX11 361 2 mX2_nth 1 := ⟨⟨w_1265, w_1266, w_1267, w_12, w_1268⟩, rfl, ⟨rfl, by decide, by decide, by decide +kernel⟩, by decide⟩
theorem v_X11_362 : VF RX11 362 1 mX1_hadAt 1 := ⟨⟨w_1276, w_1210, w_1211, w_3, w_1212⟩, rfl, ⟨rfl, by decide, by decide, by decide +kernel⟩, by decide⟩
theorem v_X11_365 : VF RX11 365 1 mX1_earliestBehind 1 := ⟨⟨w_512, w_513, w_514, w_3, w_515⟩, rfl, ⟨rfl, by decide, by decide, by decide +kernel⟩, by decide⟩
theorem v_X11_368 : VF RX11 368 1 mX1_hadWith 1 := ⟨⟨w_520, w_521, w_522, w_3, w_523⟩, rfl, ⟨rfl, by decide, by decide, by decide +kernel⟩, by decide⟩
theorem s_X11_383 : SF RX11 383 mX11_slipParts 3 := ⟨⟨w_1308, w_1309, w_1, w_1310⟩, ⟨by decide, by decide, by decide +kernel⟩, by decide⟩
theorem v_X11_392 : VF RX11 392 10 mX11_tryEvenings 2 := ⟨⟨w_1326, w_1328, sp_32, w_1, w_1329⟩, rfl, ⟨rfl, by decide, by decide, by decide +kernel⟩, by decide⟩
theorem v_X11_402 : VF RX11 402 7 mX7_latestEvening 1 := ⟨⟨w_1345, w_1346, w_1347, w_5, w_1348⟩, rfl, ⟨rfl, by decide, by decide, by decide +kernel⟩, by decide⟩
theorem v_X11_405 : VF RX11 405 7 mX7_rowsOf 1 := ⟨⟨w_1353, w_1354, w_1355, w_5, w_1356⟩, rfl, ⟨rfl, by decide, by decide, by decide +kernel⟩, by decide⟩
theorem v_X11_410 : VF RX11 410 7 mX7_read 2 := ⟨⟨w_1365, w_1350, w_1351, w_5, w_1352⟩, rfl, ⟨rfl, by decide, by decide, by decide +kernel⟩, by decide⟩
theorem v_X11_413 : VF RX11 413 0 mX0_recall 2 := ⟨⟨w_602, w_603, w_604, w_6, w_605⟩, rfl, ⟨rfl, by decide, by decide, by decide +kernel⟩, by decide⟩
theorem v_X11_417 : VF RX11 417 7 mX7_copy 1 := ⟨⟨w_616, w_472, w_473, w_5, w_474⟩, rfl, ⟨rfl, by decide, by decide, by decide +kernel⟩, by decide⟩
theorem v_X12_62 : VF RX12 62 11 mX12_dishes 0 := ⟨⟨w_1511, w_1513, sp_42, w_13, w_1514⟩, rfl, ⟨rfl, by decide, by decide, by decide +kernel⟩, by decide⟩
theorem s_X12_66 : SF RX12 66 mX12_at 2 := ⟨⟨w_1519, w_1520, w_13, w_1521⟩, ⟨by decide, by decide, by decide +kernel⟩, by decide⟩
theorem v_X12_70 : VF RX12 70 11 mX12_of 2 := ⟨⟨w_1641, w_1643, sp_65, w_13, w_1644⟩, rfl, ⟨rfl, by decide, by decide, by decide +kernel⟩, by decide⟩
theorem s_X12_73 : SF RX12 73 mX12_in 3 := ⟨⟨w_1630, w_1631, w_13, w_1632⟩, ⟨by decide, by decide, by decide +kernel⟩, by decide⟩
theorem v_X12_87 : VF RX12 87 11 mX12_isAt 2 := ⟨⟨w_1484, w_1486, sp_36, w_13, w_1487⟩, rfl, ⟨rfl, by decide, by decide, by decide +kernel⟩, by decide⟩
theorem v_X12_94 : VF RX12 94 11 mX12_blanks 0 := ⟨⟨w_1480, w_1482, sp_35, w_13, w_1483⟩, rfl, ⟨rfl, by decide, by decide, by decide +kernel⟩, by decide⟩
theorem v_X12_106 : VF RX12 106 11 mX12_letters 0 := ⟨⟨w_1492, w_1494, sp_38, w_13, w_1495⟩, rfl, ⟨rfl, by decide, by decide, by decide +kernel⟩, by decide⟩
theorem v_X12_109 : VF RX12 109 11 mX12_isWord 1 := ⟨⟨w_1501, w_1503, sp_40, w_13, w_1504⟩, rfl, ⟨rfl, by decide, by decide, by decide +kernel⟩, by decide⟩
theorem v_X12_113 : VF RX12 113 11 mX12_number 2 := ⟨⟨w_1531, w_1533, sp_46, w_13, w_1534⟩, rfl, ⟨rfl, by decide, by decide, by decide +kernel⟩, by decide⟩
theorem v_X12_118 : VF RX12 118 11 mX12_passes 1 := ⟨⟨w_1527, w_1529, sp_45, w_13, w_1530⟩, rfl, ⟨rfl, by decide, by decide, by decide +kernel⟩, by decide⟩
theorem v_X12_122 : VF RX12 122 11 mX12_after 3 := ⟨⟨w_1536, w_1538, sp_47, w_13, w_1539⟩, rfl, ⟨rfl, by decide, by decide, by decide +kernel⟩, by decide⟩
theorem v_X12_128 : VF RX12 128 11 mX12_readTastes 1 := ⟨⟨w_1515, w_1517, sp_43, w_13, w_1518⟩, rfl, ⟨rfl, by decide, by decide, by decide +kernel⟩, by decide⟩
theorem v_X12_132 : VF RX12 132 11 mX12_readFirst 1 := ⟨⟨w_1522, w_1524, sp_44, w_13, w_1525⟩, rfl, ⟨rfl, by decide, by decide, by decide +kernel⟩, by decide⟩
theorem v_X12_135 : VF RX12 135 11 mX12_readNumber 3 := ⟨⟨w_1546, w_1548, sp_49, w_13, w_1549⟩, rfl, ⟨rfl, by decide, by decide, by decide +kernel⟩, by decide⟩
theorem v_X12_142 : VF RX12 142 11 mX12_readDish 0 := ⟨⟨w_1507, w_1509, sp_41, w_13, w_1510⟩, rfl, ⟨rfl, by decide, by decide, by decide +kernel⟩, by decide⟩
theorem v_X12_148 : VF RX12 148 11 mX12_readToday 0 := ⟨⟨w_1542, w_1544, sp_48, w_13, w_1545⟩, rfl, ⟨rfl, by decide, by decide, by decide +kernel⟩, by decide⟩
theorem v_X12_153 : VF RX12 153 11 mX12_readWar 0 := ⟨⟨w_1551, w_1553, sp_50, w_13, w_1554⟩, rfl, ⟨rfl, by decide, by decide, by decide +kernel⟩, by decide⟩
theorem v_X12_177 : VF RX12 177 11 mX12_wordOfPart 0 := ⟨⟨w_1603, w_1605, sp_60, w_13, w_1606⟩, rfl, ⟨rfl, by decide, by decide, by decide +kernel⟩, by decide⟩
theorem v_X12_180 : VF RX12 180 11 mX12_emits 2 := ⟨⟨w_1585, w_1587, sp_56, w_13, w_1588⟩, rfl, ⟨rfl, by decide, by decide, by decide +kernel⟩, by decide⟩
theorem v_X12_184 : VF RX12 184 11 mX12_readPart 0 := ⟨⟨w_1599, w_1601, sp_59, w_13, w_1602⟩, rfl, ⟨rfl, by decide, by decide, by decide +kernel⟩, by decide⟩
theorem v_X12_187 : VF RX12 187 11 mX12_sign 1 := ⟨⟨w_1580, w_1582, sp_55, w_13, w_1583⟩, rfl, ⟨rfl, by decide, by decide, by decide +kernel⟩, by decide⟩
theorem v_X12_197 : VF RX12 197 11 mX12_readCond 0 := ⟨⟨w_1568, w_1570, sp_52, w_13, w_1571⟩, rfl, ⟨rfl, by decide, by decide, by decide +kernel⟩, by decide⟩
theorem v_X12_202 : VF RX12 202 11 mX12_readAtom 0 := ⟨⟨w_1576, w_1578, sp_54, w_13, w_1579⟩, rfl, ⟨rfl, by decide, by decide, by decide +kernel⟩, by decide⟩
theorem v_X12_205 : VF RX12 205 11 mX12_readTag 0 := ⟨⟨w_1589, w_1591, sp_57, w_13, w_1592⟩, rfl, ⟨rfl, by decide, by decide, by decide +kernel⟩, by decide⟩
theorem v_X12_208 : VF RX12 208 11 mX12_readSum 0 := ⟨⟨w_1595, w_1597, sp_58, w_13, w_1598⟩, rfl, ⟨rfl, by decide, by decide, by decide +kernel⟩, by decide⟩
theorem v_X12_213 : VF RX12 213 11 mX12_readAllOf 0 := ⟨⟨w_1572, w_1574, sp_53, w_13, w_1575⟩, rfl, ⟨rfl, by decide, by decide, by decide +kernel⟩, by decide⟩
theorem v_X12_226 : VF RX12 226 11 mX12_readLifeLine 0 := ⟨⟨w_1496, w_1498, sp_39, w_13, w_1499⟩, rfl, ⟨rfl, by decide, by decide, by decide +kernel⟩, by decide⟩
theorem v_X12_229 : VF RX12 229 11 mX12_readLawLine 1 := ⟨⟨w_1560, w_1562, sp_51, w_13, w_1563⟩, rfl, ⟨rfl, by decide, by decide, by decide +kernel⟩, by decide⟩
theorem v_X12_232 : VF RX12 232 11 mX12_uses 0 := ⟨⟨w_1476, w_1478, sp_34, w_13, w_1479⟩, rfl, ⟨rfl, by decide, by decide, by decide +kernel⟩, by decide⟩
theorem v_X12_235 : VF RX12 235 11 mX12_readLine 2 := ⟨⟨w_1488, w_1490, sp_37, w_13, w_1491⟩, rfl, ⟨rfl, by decide, by decide, by decide +kernel⟩, by decide⟩
theorem v_X12_239 : VF RX12 239 11 mX12_readAll 1 := ⟨⟨w_1472, w_1474, sp_33, w_13, w_1475⟩, rfl, ⟨rfl, by decide, by decide, by decide +kernel⟩, by decide⟩
theorem v_X12_243 : VF RX12 243 11 mX12_throwsIf 2 := ⟨⟨w_1614, w_1616, sp_61, w_13, w_1617⟩, rfl, ⟨rfl, by decide, by decide, by decide +kernel⟩, by decide⟩
theorem v_X12_252 : VF RX12 252 11 mX12_isNew 1 := ⟨⟨w_1637, w_1639, sp_64, w_13, w_1640⟩, rfl, ⟨rfl, by decide, by decide, by decide +kernel⟩, by decide⟩
theorem v_X12_256 : VF RX12 256 11 mX12_farOf 2 := ⟨⟨w_1646, w_1648, sp_66, w_13, w_1649⟩, rfl, ⟨rfl, by decide, by decide, by decide +kernel⟩, by decide⟩
theorem v_X12_262 : VF RX12 262 11 mX12_isInWar 1 := ⟨⟨w_1670, w_1672, sp_71, w_13, w_1673⟩, rfl, ⟨rfl, by decide, by decide, by decide +kernel⟩, by decide⟩
theorem v_X12_265 : VF RX12 265 11 mX12_factOf 4 := ⟨⟨w_1666, w_1668, sp_70, w_13, w_1669⟩, rfl, ⟨rfl, by decide, by decide, by decide +kernel⟩, by decide⟩
theorem v_X12_269 : VF RX12 269 11 mX12_callsBy 1 := ⟨⟨w_1633, w_1635, sp_63, w_13, w_1636⟩, rfl, ⟨rfl, by decide, by decide, by decide +kernel⟩, by decide⟩
theorem v_X12_272 : VF RX12 272 11 mX12_holdsLine 3 := ⟨⟨w_1662, w_1664, sp_69, w_13, w_1665⟩, rfl, ⟨rfl, by decide, by decide, by decide +kernel⟩, by decide⟩
theorem v_X12_275 : VF RX12 275 11 mX12_sumOf 2 := ⟨⟨w_1658, w_1660, sp_68, w_13, w_1661⟩, rfl, ⟨rfl, by decide, by decide, by decide +kernel⟩, by decide⟩
theorem v_X12_278 : VF RX12 278 11 mX12_noDish 1 := ⟨⟨w_1626, w_1628, sp_62, w_13, w_1629⟩, rfl, ⟨rfl, by decide, by decide, by decide +kernel⟩, by decide⟩
theorem v_X12_281 : VF RX12 281 11 mX12_turnsBy 1 := ⟨⟨w_1654, w_1656, sp_67, w_13, w_1657⟩, rfl, ⟨rfl, by decide, by decide, by decide +kernel⟩, by decide⟩
theorem v_X12_284 : VF RX12 284 11 mX12_paysBy 1 := ⟨⟨w_1674, w_1676, sp_72, w_13, w_1677⟩, rfl, ⟨rfl, by decide, by decide, by decide +kernel⟩, by decide⟩
theorem v_X12_287 : VF RX12 287 11 mX12_newOnes 0 := ⟨⟨w_1690, w_1692, sp_73, w_13, w_1693⟩, rfl, ⟨rfl, by decide, by decide, by decide +kernel⟩, by decide⟩
theorem v_X12_290 : VF RX12 290 11 mX12_takesNone 0 := ⟨⟨w_1698, w_1700, sp_74, w_13, w_1701⟩, rfl, ⟨rfl, by decide, by decide, by decide +kernel⟩, by decide⟩
theorem v_X12_296 : VF RX12 296 11 mX12_tells 2 := ⟨⟨w_1711, w_1713, sp_77, w_13, w_1714⟩, rfl, ⟨rfl, by decide, by decide, by decide +kernel⟩, by decide⟩
theorem v_X12_299 : VF RX12 299 11 mX12_drawn 1 := ⟨⟨w_1746, w_1748, sp_79, w_13, w_1749⟩, rfl, ⟨rfl, by decide, by decide, by decide +kernel⟩, by decide⟩
theorem v_X12_302 : VF RX12 302 11 mX12_takes 1 := ⟨⟨w_1706, w_1708, sp_76, w_13, w_1709⟩, rfl, ⟨rfl, by decide, by decide, by decide +kernel⟩, by decide⟩
theorem v_X12_305 : VF RX12 305 11 mX12_crusts 0 := ⟨⟨w_1719, w_1721, sp_78, w_13, w_1722⟩, rfl, ⟨rfl, by decide, by decide, by decide +kernel⟩, by decide⟩
theorem v_X12_308 : VF RX12 308 11 mX12_oneEvening 0 := ⟨⟨w_1759, w_1761, sp_81, w_13, w_1762⟩, rfl, ⟨rfl, by decide, by decide, by decide +kernel⟩, by decide⟩
theorem v_X12_311 : VF RX12 311 11 mX12_remembers 0 := ⟨⟨w_1702, w_1704, sp_75, w_13, w_1705⟩, rfl, ⟨rfl, by decide, by decide, by decide +kernel⟩, by decide⟩
theorem s_X12_314 : SF RX12 314 mX12_noPlace 1 := ⟨⟨w_1727, w_1728, w_13, w_1729⟩, ⟨by decide, by decide, by decide +kernel⟩, by decide⟩
theorem v_X12_317 : VF RX12 317 11 mX12_goesOn 1 := ⟨⟨w_1755, w_1757, sp_80, w_13, w_1758⟩, rfl, ⟨rfl, by decide, by decide, by decide +kernel⟩, by decide⟩
theorem v_X12_320 : VF RX12 320 11 mX12_isMenu 0 := ⟨⟨w_1767, w_1769, sp_82, w_13, w_1770⟩, rfl, ⟨rfl, by decide, by decide, by decide +kernel⟩, by decide⟩
theorem v_X12_323 : VF RX12 323 11 mX12_keepsAll 0 := ⟨⟨w_1771, w_1773, sp_83, w_13, w_1774⟩, rfl, ⟨rfl, by decide, by decide, by decide +kernel⟩, by decide⟩
theorem v_X12_326 : VF RX12 326 11 mX12_bringsBack 0 := ⟨⟨w_1775, w_1777, sp_84, w_13, w_1778⟩, rfl, ⟨rfl, by decide, by decide, by decide +kernel⟩, by decide⟩
theorem s_X12_329 : SF RX12 329 mJ6_bitCount_0f7a4 1 := ⟨⟨w_1791, w_525, w_28, w_526⟩, ⟨by decide, by decide, by decide +kernel⟩, by decide⟩
theorem s_X12_334 : SF RX12 334 mX12_ordersOf 1 := ⟨⟨w_1792, w_1793, w_13, w_1794⟩, ⟨by decide, by decide, by decide +kernel⟩, by decide⟩
theorem s_X12_337 : SF RX12 337 mX12_has 2 := ⟨⟨w_1799, w_1800, w_13, w_1801⟩, ⟨by decide, by decide, by decide +kernel⟩, by decide⟩
theorem v_X12_340 : VF RX12 340 11 mX12_allDishes 0 := ⟨⟨w_1787, w_1789, sp_85, w_13, w_1790⟩, rfl, ⟨rfl, by decide, by decide, by decide +kernel⟩, by decide⟩
theorem v_X12_343 : VF RX12 343 11 mX12_laysRow 2 := ⟨⟨w_1795, w_1797, sp_86, w_13, w_1798⟩, rfl, ⟨rfl, by decide, by decide, by decide +kernel⟩, by decide⟩
theorem v_X12_346 : VF RX12 346 11 mX12_saddest 1 := ⟨⟨w_1802, w_1804, sp_87, w_13, w_1805⟩, rfl, ⟨rfl, by decide, by decide, by decide +kernel⟩, by decide⟩
theorem v_X12_349 : VF RX12 349 11 mX12_ageOf 1 := ⟨⟨w_1817, w_1819, sp_89, w_13, w_1820⟩, rfl, ⟨rfl, by decide, by decide, by decide +kernel⟩, by decide⟩
theorem s_X12_352 : SF RX12 352 mX12_noAges 1 := ⟨⟨w_1810, w_1811, w_13, w_1812⟩, ⟨by decide, by decide, by decide +kernel⟩, by decide⟩
theorem v_X12_355 : VF RX12 355 11 mX12_agesOf 1 := ⟨⟨w_1813, w_1815, sp_88, w_13, w_1816⟩, rfl, ⟨rfl, by decide, by decide, by decide +kernel⟩, by decide⟩
theorem v_X12_358 : VF RX12 358 11 mX12_wasHad 4 := ⟨⟨w_1825, w_1827, sp_90, w_13, w_1828⟩, rfl, ⟨rfl, by decide, by decide, by decide +kernel⟩, by decide⟩
theorem v_X12_362 : VF RX12 362 11 mX12_fits 1 := ⟨⟨w_1837, w_1839, sp_92, w_13, w_1840⟩, rfl, ⟨rfl, by decide, by decide, by decide +kernel⟩, by decide⟩
theorem v_X12_365 : VF RX12 365 11 mX12_allThatFit 0 := ⟨⟨w_1833, w_1835, sp_91, w_13, w_1836⟩, rfl, ⟨rfl, by decide, by decide, by decide +kernel⟩, by decide⟩
theorem v_X12_368 : VF RX12 368 11 mX12_jarFrom 2 := ⟨⟨w_1861, w_1863, sp_96, w_13, w_1864⟩, rfl, ⟨rfl, by decide, by decide, by decide +kernel⟩, by decide⟩
theorem v_X12_371 : VF RX12 371 11 mX12_farBy 3 := ⟨⟨w_1857, w_1859, sp_95, w_13, w_1860⟩, rfl, ⟨rfl, by decide, by decide, by decide +kernel⟩, by decide⟩
theorem v_X12_375 : VF RX12 375 11 mX12_areJars 0 := ⟨⟨w_1849, w_1851, sp_93, w_13, w_1852⟩, rfl, ⟨rfl, by decide, by decide, by decide +kernel⟩, by decide⟩
theorem v_X12_378 : VF RX12 378 11 mX12_laysLeast 1 := ⟨⟨w_1853, w_1855, sp_94, w_13, w_1856⟩, rfl, ⟨rfl, by decide, by decide, by decide +kernel⟩, by decide⟩
theorem v_X12_382 : VF RX12 382 11 mX12_hadAt 2 := ⟨⟨w_1869, w_1871, sp_97, w_13, w_1872⟩, rfl, ⟨rfl, by decide, by decide, by decide +kernel⟩, by decide⟩
theorem v_X12_385 : VF RX12 385 11 mX12_nextFrom 1 := ⟨⟨w_1881, w_1883, sp_98, w_13, w_1884⟩, rfl, ⟨rfl, by decide, by decide, by decide +kernel⟩, by decide⟩
theorem v_X12_389 : VF RX12 389 11 mX12_hostHas 2 := ⟨⟨w_1906, w_1908, sp_99, w_13, w_1909⟩, rfl, ⟨rfl, by decide, by decide, by decide +kernel⟩, by decide⟩
theorem v_X12_396 : VF RX12 396 11 mX12_ofLog 2 := ⟨⟨w_1944, w_1946, sp_100, w_13, w_1947⟩, rfl, ⟨rfl, by decide, by decide, by decide +kernel⟩, by decide⟩
theorem v_L_7 : VF RL 7 10 mX11_life 0 := ⟨⟨w_634, w_635, w_636, w_1, w_637⟩, rfl, ⟨rfl, by decide, by decide, by decide +kernel⟩, by decide⟩
theorem v_L_17 : VF RL 17 10 mX11_law 0 := ⟨⟨w_963, w_964, w_965, w_1, w_966⟩, rfl, ⟨rfl, by decide, by decide, by decide +kernel⟩, by decide⟩
theorem v_L_20 : VF RL 20 10 mX11_dish 2 := ⟨⟨w_980, w_981, w_982, w_1, w_983⟩, rfl, ⟨rfl, by decide, by decide, by decide +kernel⟩, by decide⟩
theorem v_L_28 : VF RL 28 10 mX11_far 2 := ⟨⟨w_1025, w_1026, w_1027, w_1, w_1028⟩, rfl, ⟨rfl, by decide, by decide, by decide +kernel⟩, by decide⟩
theorem v_L_31 : VF RL 31 10 mX11_near 1 := ⟨⟨w_1032, w_1033, w_1034, w_1, w_1035⟩, rfl, ⟨rfl, by decide, by decide, by decide +kernel⟩, by decide⟩
theorem v_L_35 : VF RL 35 10 mX11_spoon 1 := ⟨⟨w_1040, w_1041, w_1042, w_1, w_1043⟩, rfl, ⟨rfl, by decide, by decide, by decide +kernel⟩, by decide⟩
theorem v_L_40 : VF RL 40 10 mX11_had 4 := ⟨⟨w_1077, w_1078, w_1079, w_1, w_1080⟩, rfl, ⟨rfl, by decide, by decide, by decide +kernel⟩, by decide⟩
theorem v_L_44 : VF RL 44 10 mX11_forget 1 := ⟨⟨w_1090, w_1091, w_1092, w_1, w_1093⟩, rfl, ⟨rfl, by decide, by decide, by decide +kernel⟩, by decide⟩
theorem v_L_47 : VF RL 47 10 mX11_reach 1 := ⟨⟨w_1098, w_1099, w_1100, w_1, w_1101⟩, rfl, ⟨rfl, by decide, by decide, by decide +kernel⟩, by decide⟩
theorem v_L_50 : VF RL 50 10 mX11_house 1 := ⟨⟨w_1106, w_1107, w_1108, w_1, w_1109⟩, rfl, ⟨rfl, by decide, by decide, by decide +kernel⟩, by decide⟩
theorem v_L_53 : VF RL 53 10 mX11_evenings 1 := ⟨⟨w_1114, w_1115, w_1116, w_1, w_1117⟩, rfl, ⟨rfl, by decide, by decide, by decide +kernel⟩, by decide⟩
theorem v_L_56 : VF RL 56 10 mX11_menu 1 := ⟨⟨w_1140, w_1141, w_1142, w_1, w_1143⟩, rfl, ⟨rfl, by decide, by decide, by decide +kernel⟩, by decide⟩
theorem v_L_59 : VF RL 59 10 mX11_fewest 2 := ⟨⟨w_1153, w_1154, w_1155, w_1, w_1156⟩, rfl, ⟨rfl, by decide, by decide, by decide +kernel⟩, by decide⟩
theorem v_L_62 : VF RL 62 10 mX11_order 2 := ⟨⟨w_1169, w_1170, w_1171, w_1, w_1172⟩, rfl, ⟨rfl, by decide, by decide, by decide +kernel⟩, by decide⟩
theorem v_L_65 : VF RL 65 10 mX11_he 0 := ⟨⟨w_1196, w_1197, w_1198, w_1, w_1199⟩, rfl, ⟨rfl, by decide, by decide, by decide +kernel⟩, by decide⟩
theorem v_L_68 : VF RL 68 10 mX11_unknown 0 := ⟨⟨w_1216, w_1217, w_1218, w_1, w_1219⟩, rfl, ⟨rfl, by decide, by decide, by decide +kernel⟩, by decide⟩
theorem v_L_71 : VF RL 71 10 mX11_serve 0 := ⟨⟨w_1232, w_1233, w_1234, w_1, w_1235⟩, rfl, ⟨rfl, by decide, by decide, by decide +kernel⟩, by decide⟩
theorem v_L_74 : VF RL 74 10 mX11_jars 1 := ⟨⟨w_1243, w_1244, w_1245, w_1, w_1246⟩, rfl, ⟨rfl, by decide, by decide, by decide +kernel⟩, by decide⟩
theorem v_L_77 : VF RL 77 10 mX11_kitchen 1 := ⟨⟨w_1272, w_1273, w_1274, w_1, w_1275⟩, rfl, ⟨rfl, by decide, by decide, by decide +kernel⟩, by decide⟩
theorem v_L_80 : VF RL 80 10 mX11_hosts 2 := ⟨⟨w_1280, w_1281, w_1282, w_1, w_1283⟩, rfl, ⟨rfl, by decide, by decide, by decide +kernel⟩, by decide⟩
theorem v_L_83 : VF RL 83 10 mX11_breaks 1 := ⟨⟨w_1288, w_1289, w_1290, w_1, w_1291⟩, rfl, ⟨rfl, by decide, by decide, by decide +kernel⟩, by decide⟩
theorem v_L_86 : VF RL 86 10 mX11_company 1 := ⟨⟨w_1295, w_1296, w_1297, w_1, w_1298⟩, rfl, ⟨rfl, by decide, by decide, by decide +kernel⟩, by decide⟩
theorem v_L_89 : VF RL 89 10 mX11_odds 2 := ⟨⟨w_1303, w_1304, w_1305, w_1, w_1306⟩, rfl, ⟨rfl, by decide, by decide, by decide +kernel⟩, by decide⟩
theorem v_L_92 : VF RL 92 10 mX11_share 1 := ⟨⟨w_1315, w_1316, w_1317, w_1, w_1318⟩, rfl, ⟨rfl, by decide, by decide, by decide +kernel⟩, by decide⟩
theorem v_L_95 : VF RL 95 10 mX11_trial 2 := ⟨⟨w_1322, w_1323, w_1324, w_1, w_1325⟩, rfl, ⟨rfl, by decide, by decide, by decide +kernel⟩, by decide⟩
theorem v_L_99 : VF RL 99 10 mX11_span 2 := ⟨⟨w_1333, w_1334, w_1335, w_1, w_1336⟩, rfl, ⟨rfl, by decide, by decide, by decide +kernel⟩, by decide⟩
theorem v_L_102 : VF RL 102 10 mX11_led 2 := ⟨⟨w_1341, w_1342, w_1343, w_1, w_1344⟩, rfl, ⟨rfl, by decide, by decide, by decide +kernel⟩, by decide⟩
theorem v_L_105 : VF RL 105 10 mX11_log 2 := ⟨⟨w_1360, w_1361, w_1362, w_1, w_1363⟩, rfl, ⟨rfl, by decide, by decide, by decide +kernel⟩, by decide⟩
theorem v_L_112 : VF RL 112 10 mX11_feed 5 := ⟨⟨w_420, w_421, w_422, w_1, w_423⟩, rfl, ⟨rfl, by decide, by decide, by decide +kernel⟩, by decide⟩
theorem v_L_116 : VF RL 116 11 mX12_feed 5 := ⟨⟨w_1456, w_1457, w_1458, w_13, w_1459⟩, rfl, ⟨rfl, by decide, by decide, by decide +kernel⟩, by decide⟩
theorem v_L_117 : VF RL 117 10 mX11_end 1 := ⟨⟨w_428, w_429, w_430, w_1, w_431⟩, rfl, ⟨rfl, by decide, by decide, by decide +kernel⟩, by decide⟩
theorem v_L_121 : VF RL 121 11 mX12_end 1 := ⟨⟨w_1460, w_1461, w_1462, w_13, w_1463⟩, rfl, ⟨rfl, by decide, by decide, by decide +kernel⟩, by decide⟩
theorem v_L_127 : VF RL 127 11 mX12_life 0 := ⟨⟨w_1468, w_1469, w_1470, w_13, w_1471⟩, rfl, ⟨rfl, by decide, by decide, by decide +kernel⟩, by decide⟩
theorem v_L_128 : VF RL 128 11 mX12_thrown 0 := ⟨⟨w_1366, w_1367, w_1368, w_13, w_1369⟩, rfl, ⟨rfl, by decide, by decide, by decide +kernel⟩, by decide⟩
theorem v_L_133 : VF RL 133 11 mX12_law 0 := ⟨⟨w_1618, w_1619, w_1620, w_13, w_1621⟩, rfl, ⟨rfl, by decide, by decide, by decide +kernel⟩, by decide⟩
theorem v_L_134 : VF RL 134 10 mX11_fault 0 := ⟨⟨w_432, w_433, w_434, w_1, w_435⟩, rfl, ⟨rfl, by decide, by decide, by decide +kernel⟩, by decide⟩
theorem v_L_137 : VF RL 137 11 mX12_fault 0 := ⟨⟨w_1464, w_1465, w_1466, w_13, w_1467⟩, rfl, ⟨rfl, by decide, by decide, by decide +kernel⟩, by decide⟩
theorem v_L_141 : VF RL 141 11 mX12_dish 2 := ⟨⟨w_1622, w_1623, w_1624, w_13, w_1625⟩, rfl, ⟨rfl, by decide, by decide, by decide +kernel⟩, by decide⟩
theorem v_L_144 : VF RL 144 11 mX12_far 2 := ⟨⟨w_1678, w_1679, w_1680, w_13, w_1681⟩, rfl, ⟨rfl, by decide, by decide, by decide +kernel⟩, by decide⟩
theorem v_L_148 : VF RL 148 11 mX12_near 1 := ⟨⟨w_1682, w_1683, w_1684, w_13, w_1685⟩, rfl, ⟨rfl, by decide, by decide, by decide +kernel⟩, by decide⟩
theorem v_L_149 : VF RL 149 10 mX11_left 0 := ⟨⟨w_436, w_437, w_438, w_1, w_439⟩, rfl, ⟨rfl, by decide, by decide, by decide +kernel⟩, by decide⟩
theorem v_L_152 : VF RL 152 11 mX12_left 0 := ⟨⟨w_1686, w_1687, w_1688, w_13, w_1689⟩, rfl, ⟨rfl, by decide, by decide, by decide +kernel⟩, by decide⟩
theorem v_L_155 : VF RL 155 11 mX12_spoon 1 := ⟨⟨w_1694, w_1695, w_1696, w_13, w_1697⟩, rfl, ⟨rfl, by decide, by decide, by decide +kernel⟩, by decide⟩
theorem v_L_156 : VF RL 156 10 mX11_crust 0 := ⟨⟨w_452, w_453, w_454, w_1, w_455⟩, rfl, ⟨rfl, by decide, by decide, by decide +kernel⟩, by decide⟩
theorem v_L_159 : VF RL 159 11 mX12_crust 0 := ⟨⟨w_1715, w_1716, w_1717, w_13, w_1718⟩, rfl, ⟨rfl, by decide, by decide, by decide +kernel⟩, by decide⟩
theorem v_L_163 : VF RL 163 11 mX12_had 4 := ⟨⟨w_1723, w_1724, w_1725, w_13, w_1726⟩, rfl, ⟨rfl, by decide, by decide, by decide +kernel⟩, by decide⟩
theorem v_L_166 : VF RL 166 11 mX12_forget 1 := ⟨⟨w_1730, w_1731, w_1732, w_13, w_1733⟩, rfl, ⟨rfl, by decide, by decide, by decide +kernel⟩, by decide⟩
theorem v_L_169 : VF RL 169 11 mX12_reach 1 := ⟨⟨w_1734, w_1735, w_1736, w_13, w_1737⟩, rfl, ⟨rfl, by decide, by decide, by decide +kernel⟩, by decide⟩
theorem v_L_172 : VF RL 172 11 mX12_house 1 := ⟨⟨w_1738, w_1739, w_1740, w_13, w_1741⟩, rfl, ⟨rfl, by decide, by decide, by decide +kernel⟩, by decide⟩
theorem v_L_173 : VF RL 173 10 mX11_look 0 := ⟨⟨w_484, w_485, w_486, w_1, w_487⟩, rfl, ⟨rfl, by decide, by decide, by decide +kernel⟩, by decide⟩
theorem v_L_176 : VF RL 176 11 mX12_look 0 := ⟨⟨w_1742, w_1743, w_1744, w_13, w_1745⟩, rfl, ⟨rfl, by decide, by decide, by decide +kernel⟩, by decide⟩
theorem v_L_179 : VF RL 179 11 mX12_evenings 1 := ⟨⟨w_1751, w_1752, w_1753, w_13, w_1754⟩, rfl, ⟨rfl, by decide, by decide, by decide +kernel⟩, by decide⟩
theorem v_L_182 : VF RL 182 11 mX12_menu 1 := ⟨⟨w_1763, w_1764, w_1765, w_13, w_1766⟩, rfl, ⟨rfl, by decide, by decide, by decide +kernel⟩, by decide⟩
theorem v_L_185 : VF RL 185 11 mX12_fewest 2 := ⟨⟨w_1806, w_1807, w_1808, w_13, w_1809⟩, rfl, ⟨rfl, by decide, by decide, by decide +kernel⟩, by decide⟩
theorem v_L_188 : VF RL 188 11 mX12_order 2 := ⟨⟨w_1783, w_1784, w_1785, w_13, w_1786⟩, rfl, ⟨rfl, by decide, by decide, by decide +kernel⟩, by decide⟩
theorem v_L_191 : VF RL 191 11 mX12_he 0 := ⟨⟨w_1821, w_1822, w_1823, w_13, w_1824⟩, rfl, ⟨rfl, by decide, by decide, by decide +kernel⟩, by decide⟩
theorem v_L_194 : VF RL 194 11 mX12_unknown 0 := ⟨⟨w_1829, w_1830, w_1831, w_13, w_1832⟩, rfl, ⟨rfl, by decide, by decide, by decide +kernel⟩, by decide⟩
theorem v_L_197 : VF RL 197 11 mX12_serve 0 := ⟨⟨w_1841, w_1842, w_1843, w_13, w_1844⟩, rfl, ⟨rfl, by decide, by decide, by decide +kernel⟩, by decide⟩
theorem v_L_200 : VF RL 200 11 mX12_jars 1 := ⟨⟨w_1845, w_1846, w_1847, w_13, w_1848⟩, rfl, ⟨rfl, by decide, by decide, by decide +kernel⟩, by decide⟩
theorem v_L_203 : VF RL 203 11 mX12_kitchen 1 := ⟨⟨w_1865, w_1866, w_1867, w_13, w_1868⟩, rfl, ⟨rfl, by decide, by decide, by decide +kernel⟩, by decide⟩
theorem v_L_204 : VF RL 204 10 mX11_dated 1 := ⟨⟨w_493, w_494, w_495, w_1, w_496⟩, rfl, ⟨rfl, by decide, by decide, by decide +kernel⟩, by decide⟩
theorem v_L_207 : VF RL 207 11 mX12_dated 1 := ⟨⟨w_1873, w_1874, w_1875, w_13, w_1876⟩, rfl, ⟨rfl, by decide, by decide, by decide +kernel⟩, by decide⟩
theorem v_L_208 : VF RL 208 10 mX11_gap 0 := ⟨⟨w_508, w_509, w_510, w_1, w_511⟩, rfl, ⟨rfl, by decide, by decide, by decide +kernel⟩, by decide⟩
theorem v_L_211 : VF RL 211 11 mX12_gap 0 := ⟨⟨w_1877, w_1878, w_1879, w_13, w_1880⟩, rfl, ⟨rfl, by decide, by decide, by decide +kernel⟩, by decide⟩
theorem v_L_212 : VF RL 212 10 mX11_lover 0 := ⟨⟨w_516, w_517, w_518, w_1, w_519⟩, rfl, ⟨rfl, by decide, by decide, by decide +kernel⟩, by decide⟩
theorem v_L_215 : VF RL 215 11 mX12_lover 0 := ⟨⟨w_1893, w_1894, w_1895, w_13, w_1896⟩, rfl, ⟨rfl, by decide, by decide, by decide +kernel⟩, by decide⟩
theorem v_L_216 : VF RL 216 10 mX11_oldest 0 := ⟨⟨w_530, w_531, w_532, w_1, w_533⟩, rfl, ⟨rfl, by decide, by decide, by decide +kernel⟩, by decide⟩
theorem v_L_219 : VF RL 219 11 mX12_oldest 0 := ⟨⟨w_1885, w_1886, w_1887, w_13, w_1888⟩, rfl, ⟨rfl, by decide, by decide, by decide +kernel⟩, by decide⟩
theorem v_L_220 : VF RL 220 10 mX11_sad 0 := ⟨⟨w_534, w_535, w_536, w_1, w_537⟩, rfl, ⟨rfl, by decide, by decide, by decide +kernel⟩, by decide⟩
theorem v_L_223 : VF RL 223 11 mX12_sad 0 := ⟨⟨w_1897, w_1898, w_1899, w_13, w_1900⟩, rfl, ⟨rfl, by decide, by decide, by decide +kernel⟩, by decide⟩
theorem v_L_226 : VF RL 226 11 mX12_hosts 2 := ⟨⟨w_1902, w_1903, w_1904, w_13, w_1905⟩, rfl, ⟨rfl, by decide, by decide, by decide +kernel⟩, by decide⟩
theorem v_L_229 : VF RL 229 11 mX12_breaks 1 := ⟨⟨w_1779, w_1780, w_1781, w_13, w_1782⟩, rfl, ⟨rfl, by decide, by decide, by decide +kernel⟩, by decide⟩
theorem v_L_230 : VF RL 230 10 mX11_twins 0 := ⟨⟨w_580, w_581, w_582, w_1, w_583⟩, rfl, ⟨rfl, by decide, by decide, by decide +kernel⟩, by decide⟩
theorem v_L_233 : VF RL 233 11 mX12_twins 0 := ⟨⟨w_1910, w_1911, w_1912, w_13, w_1913⟩, rfl, ⟨rfl, by decide, by decide, by decide +kernel⟩, by decide⟩
theorem v_L_234 : VF RL 234 10 mX11_next 0 := ⟨⟨w_585, w_586, w_587, w_1, w_588⟩, rfl, ⟨rfl, by decide, by decide, by decide +kernel⟩, by decide⟩
theorem v_L_237 : VF RL 237 11 mX12_next 0 := ⟨⟨w_1889, w_1890, w_1891, w_13, w_1892⟩, rfl, ⟨rfl, by decide, by decide, by decide +kernel⟩, by decide⟩
theorem v_L_238 : VF RL 238 10 mX11_warlike 0 := ⟨⟨w_589, w_590, w_591, w_1, w_592⟩, rfl, ⟨rfl, by decide, by decide, by decide +kernel⟩, by decide⟩
theorem v_L_241 : VF RL 241 11 mX12_warlike 0 := ⟨⟨w_1914, w_1915, w_1916, w_13, w_1917⟩, rfl, ⟨rfl, by decide, by decide, by decide +kernel⟩, by decide⟩
theorem v_L_244 : VF RL 244 11 mX12_company 1 := ⟨⟨w_1918, w_1919, w_1920, w_13, w_1921⟩, rfl, ⟨rfl, by decide, by decide, by decide +kernel⟩, by decide⟩
theorem v_L_247 : VF RL 247 11 mX12_odds 2 := ⟨⟨w_1922, w_1923, w_1924, w_13, w_1925⟩, rfl, ⟨rfl, by decide, by decide, by decide +kernel⟩, by decide⟩
theorem v_L_250 : VF RL 250 11 mX12_share 1 := ⟨⟨w_1928, w_1929, w_1930, w_13, w_1931⟩, rfl, ⟨rfl, by decide, by decide, by decide +kernel⟩, by decide⟩
theorem v_L_254 : VF RL 254 11 mX12_trial 2 := ⟨⟨w_1932, w_1933, w_1934, w_13, w_1935⟩, rfl, ⟨rfl, by decide, by decide, by decide +kernel⟩, by decide⟩
theorem v_L_257 : VF RL 257 11 mX12_span 2 := ⟨⟨w_1936, w_1937, w_1938, w_13, w_1939⟩, rfl, ⟨rfl, by decide, by decide, by decide +kernel⟩, by decide⟩
theorem v_L_260 : VF RL 260 11 mX12_led 2 := ⟨⟨w_1940, w_1941, w_1942, w_13, w_1943⟩, rfl, ⟨rfl, by decide, by decide, by decide +kernel⟩, by decide⟩
theorem v_L_263 : VF RL 263 11 mX12_log 2 := ⟨⟨w_1948, w_1949, w_1950, w_13, w_1951⟩, rfl, ⟨rfl, by decide, by decide, by decide +kernel⟩, by decide⟩
theorem v_L_264 : VF RL 264 10 mX11_seed 1 := ⟨⟨w_594, w_595, w_596, w_1, w_597⟩, rfl, ⟨rfl, by decide, by decide, by decide +kernel⟩, by decide⟩
theorem v_L_267 : VF RL 267 11 mX12_seed 1 := ⟨⟨w_1952, w_1953, w_1954, w_13, w_1955⟩, rfl, ⟨rfl, by decide, by decide, by decide +kernel⟩, by decide⟩
theorem v_L_268 : VF RL 268 10 mX11_undo 0 := ⟨⟨w_598, w_599, w_600, w_1, w_601⟩, rfl, ⟨rfl, by decide, by decide, by decide +kernel⟩, by decide⟩
theorem v_L_272 : VF RL 272 11 mX12_undo 0 := ⟨⟨w_1452, w_1453, w_1454, w_13, w_1455⟩, rfl, ⟨rfl, by decide, by decide, by decide +kernel⟩, by decide⟩
theorem v_L_273 : VF RL 273 10 mX11_image 0 := ⟨⟨w_606, w_607, w_608, w_1, w_609⟩, rfl, ⟨rfl, by decide, by decide, by decide +kernel⟩, by decide⟩
theorem v_L_276 : VF RL 276 11 mX12_image 0 := ⟨⟨w_1444, w_1445, w_1446, w_13, w_1447⟩, rfl, ⟨rfl, by decide, by decide, by decide +kernel⟩, by decide⟩
theorem v_L_277 : VF RL 277 10 mX11_back 0 := ⟨⟨w_617, w_618, w_619, w_1, w_620⟩, rfl, ⟨rfl, by decide, by decide, by decide +kernel⟩, by decide⟩
theorem v_L_280 : VF RL 280 11 mX12_back 0 := ⟨⟨w_1448, w_1449, w_1450, w_13, w_1451⟩, rfl, ⟨rfl, by decide, by decide, by decide +kernel⟩, by decide⟩
theorem v_L_281 : VF RL 281 10 mX11_count 1 := ⟨⟨w_625, w_626, w_627, w_1, w_628⟩, rfl, ⟨rfl, by decide, by decide, by decide +kernel⟩, by decide⟩
theorem v_L_284 : VF RL 284 11 mX12_count 1 := ⟨⟨w_1956, w_1957, w_1958, w_13, w_1959⟩, rfl, ⟨rfl, by decide, by decide, by decide +kernel⟩, by decide⟩
