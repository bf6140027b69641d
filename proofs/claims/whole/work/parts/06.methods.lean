abbrev mX0_init : Mi := (yX0_init, cX0_init, 1, none)
abbrev mX0_copy : Mi := (yX0_copy, cX0_copy, 2, none)
abbrev mX0_read : Mi := (yX0_read, cX0_read, 3, (some .int))
abbrev mX0_write : Mi := (yX0_write, cX0_write, 6, none)
abbrev mX1_init : Mi := (yX1_init, cX1_init, 1, none)
abbrev mX1_copy : Mi := (yX1_copy, cX1_copy, 2, none)
abbrev mX1_askLaw : Mi := (yX1_askLaw, cX1_askLaw, 7, (some .int))
abbrev mX1_see : Mi := (yX1_see, cX1_see, 6, none)
abbrev mX1_customary : Mi := (yX1_customary, cX1_customary, 2, (some .int))
abbrev mX1_held : Mi := (yX1_held, cX1_held, 3, (some .int))
abbrev mX1_doDeed : Mi := (yX1_doDeed, cX1_doDeed, 5, none)
abbrev mX1_tie : Mi := (yX1_tie, cX1_tie, 5, none)
abbrev mX1_wash : Mi := (yX1_wash, cX1_wash, 6, none)
abbrev mX1_pull : Mi := (yX1_pull, cX1_pull, 4, none)
abbrev mX1_passDay : Mi := (yX1_passDay, cX1_passDay, 5, (some .int))
abbrev mX1_isTold : Mi := (yX1_isTold, cX1_isTold, 4, (some .boolean))
abbrev mX1_settle : Mi := (yX1_settle, cX1_settle, 5, none)
abbrev mX2_init : Mi := (yX2_init, cX2_init, 1, none)
abbrev mX2_copy : Mi := (yX2_copy, cX2_copy, 2, none)
abbrev mX2_empty : Mi := (yX2_empty, cX2_empty, 1, none)
abbrev mX2_put : Mi := (yX2_put, cX2_put, 2, none)
abbrev mX2_addLine : Mi := (yX2_addLine, cX2_addLine, 4, none)
abbrev mX2_lineFor : Mi := (yX2_lineFor, cX2_lineFor, 4, (some .int))
abbrev mX2_told : Mi := (yX2_told, cX2_told, 3, (some .int))
abbrev mX2_worth : Mi := (yX2_worth, cX2_worth, 9, (some .int))
abbrev mX3_init : Mi := (yX3_init, cX3_init, 1, none)
abbrev mX3_readLaw : Mi := (yX3_readLaw, cX3_readLaw, 6, (some .boolean))
abbrev mX3_readCondition : Mi := (yX3_readCondition, cX3_readCondition, 6, (some .boolean))
abbrev mX3_readClaim : Mi := (yX3_readClaim, cX3_readClaim, 5, (some .boolean))
abbrev mX3_readSum : Mi := (yX3_readSum, cX3_readSum, 4, (some .boolean))
abbrev mX3_readProduct : Mi := (yX3_readProduct, cX3_readProduct, 4, (some .boolean))
abbrev mX4_init : Mi := (yX4_init, cX4_init, 1, none)
abbrev mX4_readLines : Mi := (yX4_readLines, cX4_readLines, 5, (some .boolean))
abbrev mX4_readLine : Mi := (yX4_readLine, cX4_readLine, 5, (some .boolean))
abbrev mX4_takeNumber : Mi := (yX4_takeNumber, cX4_takeNumber, 3, (some .boolean))
abbrev mX4_readDeed : Mi := (yX4_readDeed, cX4_readDeed, 7, (some .boolean))
abbrev mX4_readMind : Mi := (yX4_readMind, cX4_readMind, 5, (some .boolean))
abbrev mX4_readFriends : Mi := (yX4_readFriends, cX4_readFriends, 4, (some .boolean))
abbrev mX5_init : Mi := (yX5_init, cX5_init, 1, none)
abbrev mX5_copy : Mi := (yX5_copy, cX5_copy, 2, none)
abbrev mX5_add : Mi := (yX5_add, cX5_add, 5, none)
abbrev mX5_friendsOf : Mi := (yX5_friendsOf, cX5_friendsOf, 4, (some .int))
abbrev mX6_init : Mi := (yX6_init, cX6_init, 1, none)
abbrev mX6_strandEnd : Mi := (yX6_strandEnd, cX6_strandEnd, 5, (some .int))
abbrev mX6_crossingsLeft : Mi := (yX6_crossingsLeft, cX6_crossingsLeft, 5, (some .int))
abbrev mX6_layRow : Mi := (yX6_layRow, cX6_layRow, 7, (some .boolean))
abbrev mX6_strangeCouples : Mi := (yX6_strangeCouples, cX6_strangeCouples, 3, (some .int))
abbrev mX6_fewestTurnings : Mi := (yX6_fewestTurnings, cX6_fewestTurnings, 2, (some .int))
abbrev mX6_isInOrderBy : Mi := (yX6_isInOrderBy, cX6_isInOrderBy, 5, (some .boolean))
abbrev mX6_turn : Mi := (yX6_turn, cX6_turn, 4, none)
abbrev mX6_cellAt : Mi := (yX6_cellAt, cX6_cellAt, 4, (some .int))
abbrev mX6_folded : Mi := (yX6_folded, cX6_folded, 10, (some .int))
abbrev mX6_boxAfter : Mi := (yX6_boxAfter, cX6_boxAfter, 4, (some .int))
abbrev mX6_nextAsked : Mi := (yX6_nextAsked, cX6_nextAsked, 3, (some .int))
abbrev mX6_dealtTo : Mi := (yX6_dealtTo, cX6_dealtTo, 6, (some .int))
abbrev mX6_layTable : Mi := (yX6_layTable, cX6_layTable, 6, none)
abbrev mX6_looksFor : Mi := (yX6_looksFor, cX6_looksFor, 5, (some .int))
abbrev mX6_lastLookFound : Mi := (yX6_lastLookFound, cX6_lastLookFound, 5, (some .int))
abbrev mX6_placeBehind : Mi := (yX6_placeBehind, cX6_placeBehind, 3, (some .int))
abbrev mX6_isPlace : Mi := (yX6_isPlace, cX6_isPlace, 2, (some .boolean))
abbrev mX6_misses : Mi := (yX6_misses, cX6_misses, 7, (some .int))
abbrev mX6_whichGoes : Mi := (yX6_whichGoes, cX6_whichGoes, 8, (some .int))
abbrev mX6_stepsTo : Mi := (yX6_stepsTo, cX6_stepsTo, 6, (some .int))
abbrev mX6_sidesWith : Mi := (yX6_sidesWith, cX6_sidesWith, 5, (some .int))
abbrev mX6_casesOfOneSide : Mi := (yX6_casesOfOneSide, cX6_casesOfOneSide, 6, (some .int))
abbrev mX6_isSide : Mi := (yX6_isSide, cX6_isSide, 4, (some .boolean))
abbrev mX6_casesOf : Mi := (yX6_casesOf, cX6_casesOf, 4, (some .int))
abbrev mX6_meetsInRound : Mi := (yX6_meetsInRound, cX6_meetsInRound, 3, (some .int))
abbrev mX6_waysInRows : Mi := (yX6_waysInRows, cX6_waysInRows, 4, (some .int))
abbrev mX6_lettersOf : Mi := (yX6_lettersOf, cX6_lettersOf, 1, (some .int))
abbrev mX6_spellings : Mi := (yX6_spellings, cX6_spellings, 4, (some .int))
abbrev mX6_letterAt : Mi := (yX6_letterAt, cX6_letterAt, 5, (some .int))
abbrev mX6_winningPlace : Mi := (yX6_winningPlace, cX6_winningPlace, 3, (some .int))
abbrev mX6_hasThree : Mi := (yX6_hasThree, cX6_hasThree, 1, (some .boolean))
abbrev mX6_isSafe : Mi := (yX6_isSafe, cX6_isSafe, 3, (some .boolean))
abbrev mX6_nimberLeft : Mi := (yX6_nimberLeft, cX6_nimberLeft, 5, (some .int))
abbrev mX7_init : Mi := (yX7_init, cX7_init, 1, none)
abbrev mX7_put : Mi := (yX7_put, cX7_put, 3, none)
abbrev mX7_rewind : Mi := (yX7_rewind, cX7_rewind, 1, none)
abbrev mX7_next : Mi := (yX7_next, cX7_next, 1, none)
abbrev mX7_isLetter : Mi := (yX7_isLetter, cX7_isLetter, 1, (some .boolean))
abbrev mX7_isDigit : Mi := (yX7_isDigit, cX7_isDigit, 1, (some .boolean))
abbrev mX7_keyword : Mi := (yX7_keyword, cX7_keyword, 6, (some .int))
abbrev mX7_refuse : Mi := (yX7_refuse, cX7_refuse, 2, (some .boolean))
abbrev mX7_take : Mi := (yX7_take, cX7_take, 2, (some .boolean))
abbrev mX7_isNumber : Mi := (yX7_isNumber, cX7_isNumber, 3, (some .boolean))
abbrev mX8_init : Mi := (yX8_init, cX8_init, 2, none)
abbrev mX8_copy : Mi := (yX8_copy, cX8_copy, 3, none)
abbrev mX8_empty : Mi := (yX8_empty, cX8_empty, 1, (some .int))
abbrev mX8_tell : Mi := (yX8_tell, cX8_tell, 2, (some .int))
abbrev mX8_get : Mi := (yX8_get, cX8_get, 2, (some .int))
abbrev mX9_init : Mi := (yX9_init, cX9_init, 2, none)
abbrev mX9_copy : Mi := (yX9_copy, cX9_copy, 2, none)
abbrev mX9_hasPerson : Mi := (yX9_hasPerson, cX9_hasPerson, 2, (some .boolean))
abbrev mX9_hasCloth : Mi := (yX9_hasCloth, cX9_hasCloth, 2, (some .boolean))
abbrev mX9_hasThing : Mi := (yX9_hasThing, cX9_hasThing, 2, (some .boolean))
abbrev mX9_addPerson : Mi := (yX9_addPerson, cX9_addPerson, 2, (some .int))
abbrev mX9_addCloth : Mi := (yX9_addCloth, cX9_addCloth, 2, (some .int))
abbrev mX9_addThing : Mi := (yX9_addThing, cX9_addThing, 3, (some .int))
abbrev mX9_change : Mi := (yX9_change, cX9_change, 4, (some .boolean))
abbrev mX9_isOpen : Mi := (yX9_isOpen, cX9_isOpen, 2, (some .boolean))
abbrev mX9_thingsThatAre : Mi := (yX9_thingsThatAre, cX9_thingsThatAre, 4, (some .int))
abbrev mX9_leftTo : Mi := (yX9_leftTo, cX9_leftTo, 4, (some .int))
abbrev mX9_leastDueOf : Mi := (yX9_leastDueOf, cX9_leastDueOf, 5, (some .int))
abbrev mX9_clothsWith : Mi := (yX9_clothsWith, cX9_clothsWith, 4, (some .int))
abbrev mX9_knotAt : Mi := (yX9_knotAt, cX9_knotAt, 3, (some .int))
abbrev mX9_holderOf : Mi := (yX9_holderOf, cX9_holderOf, 2, (some .int))
abbrev mX9_canDo : Mi := (yX9_canDo, cX9_canDo, 4, (some .boolean))
abbrev mX9_addKnot : Mi := (yX9_addKnot, cX9_addKnot, 4, none)
abbrev mX9_untie : Mi := (yX9_untie, cX9_untie, 6, none)
abbrev mX9_happens : Mi := (yX9_happens, cX9_happens, 2, (some .boolean))
abbrev mX9_drawThousand : Mi := (yX9_drawThousand, cX9_drawThousand, 1, (some .int))
abbrev mX10_init : Mi := (yX10_init, cX10_init, 2, none)
abbrev mX10_state : Mi := (yX10_state, cX10_state, 3, (some .int))
abbrev mX10_person : Mi := (yX10_person, cX10_person, 2, (some .int))
abbrev mX10_cloth : Mi := (yX10_cloth, cX10_cloth, 2, (some .int))
abbrev mX10_thing : Mi := (yX10_thing, cX10_thing, 3, (some .int))
abbrev mX10_set : Mi := (yX10_set, cX10_set, 5, (some .boolean))
abbrev mX10_act : Mi := (yX10_act, cX10_act, 4, (some .boolean))
abbrev mX10_days : Mi := (yX10_days, cX10_days, 4, (some .int))
abbrev mX10_feed : Mi := (yX10_feed, cX10_feed, 6, (some .int))
abbrev mX10_end : Mi := (yX10_end, cX10_end, 2, (some .boolean))
abbrev mX10_text : Mi := (yX10_text, cX10_text, 3, (some .int))
abbrev mX10_fault : Mi := (yX10_fault, cX10_fault, 2, (some .int))
abbrev mX10_of : Mi := (yX10_of, cX10_of, 4, (some .int))
abbrev mX10_clothOf : Mi := (yX10_clothOf, cX10_clothOf, 4, (some .int))
abbrev mX10_thingOf : Mi := (yX10_thingOf, cX10_thingOf, 5, (some .int))
abbrev mX10_book : Mi := (yX10_book, cX10_book, 3, (some .int))
abbrev mX10_goes : Mi := (yX10_goes, cX10_goes, 3, (some .int))
abbrev mX10_fate : Mi := (yX10_fate, cX10_fate, 2, (some .int))
abbrev mX10_crossing : Mi := (yX10_crossing, cX10_crossing, 2, (some .int))
abbrev mX10_braid : Mi := (yX10_braid, cX10_braid, 2, (some .int))
abbrev mX10_turnings : Mi := (yX10_turnings, cX10_turnings, 3, (some .int))
abbrev mX10_strip : Mi := (yX10_strip, cX10_strip, 4, (some .int))
abbrev mX10_answer : Mi := (yX10_answer, cX10_answer, 2, (some .int))
abbrev mX10_boxes : Mi := (yX10_boxes, cX10_boxes, 2, (some .int))
abbrev mX10_piles : Mi := (yX10_piles, cX10_piles, 3, (some .int))
abbrev mX10_dealt : Mi := (yX10_dealt, cX10_dealt, 2, (some .int))
abbrev mX10_key : Mi := (yX10_key, cX10_key, 2, (some .int))
abbrev mX10_table : Mi := (yX10_table, cX10_table, 5, (some .int))
abbrev mX10_ask : Mi := (yX10_ask, cX10_ask, 2, (some .int))
abbrev mX10_pages : Mi := (yX10_pages, cX10_pages, 3, (some .int))
abbrev mX10_truth : Mi := (yX10_truth, cX10_truth, 3, (some .int))
abbrev mX10_rounds : Mi := (yX10_rounds, cX10_rounds, 6, (some .int))
abbrev mX10_meets : Mi := (yX10_meets, cX10_meets, 6, (some .int))
abbrev mX10_rows : Mi := (yX10_rows, cX10_rows, 3, (some .int))
abbrev mX10_digit : Mi := (yX10_digit, cX10_digit, 2, (some .int))
abbrev mX10_spelt : Mi := (yX10_spelt, cX10_spelt, 4, (some .int))
abbrev mX10_game : Mi := (yX10_game, cX10_game, 3, (some .int))
abbrev mX10_undo : Mi := (yX10_undo, cX10_undo, 2, (some .boolean))
abbrev mX10_image : Mi := (yX10_image, cX10_image, 2, (some .boolean))
abbrev mX10_look : Mi := (yX10_look, cX10_look, 3, (some .int))
abbrev mX10_isWithin : Mi := (yX10_isWithin, cX10_isWithin, 3, (some .boolean))
abbrev mX10_sum : Mi := (yX10_sum, cX10_sum, 4, (some .int))
abbrev mX10_forgetUndosFor : Mi := (yX10_forgetUndosFor, cX10_forgetUndosFor, 2, (some .int))
abbrev mX10_keepForUndo : Mi := (yX10_keepForUndo, cX10_keepForUndo, 3, none)
abbrev mX10_think : Mi := (yX10_think, cX10_think, 3, none)
abbrev mX10_tellLines : Mi := (yX10_tellLines, cX10_tellLines, 3, (some .int))
abbrev mX11_init : Mi := (yX11_init, cX11_init, 1, none)
abbrev mX11_isIn : Mi := (yX11_isIn, cX11_isIn, 4, (some .boolean))
abbrev mX11_held : Mi := (yX11_held, cX11_held, 4, (some .int))
abbrev mX11_lesser : Mi := (yX11_lesser, cX11_lesser, 3, (some .int))
abbrev mX11_onesOf : Mi := (yX11_onesOf, cX11_onesOf, 4, (some .int))
abbrev mX11_has : Mi := (yX11_has, cX11_has, 3, (some .boolean))
abbrev mX11_keepsAhead : Mi := (yX11_keepsAhead, cX11_keepsAhead, 2, none)
abbrev mX11_undo : Mi := (yX11_undo, cX11_undo, 2, (some .boolean))
abbrev mX11_thinks : Mi := (yX11_thinks, cX11_thinks, 2, none)
abbrev mX11_endsThought : Mi := (yX11_endsThought, cX11_endsThought, 2, none)
abbrev mX11_state : Mi := (yX11_state, cX11_state, 3, (some .int))
abbrev mX11_draw : Mi := (yX11_draw, cX11_draw, 2, (some .int))
abbrev mX11_isPerson : Mi := (yX11_isPerson, cX11_isPerson, 2, (some .boolean))
abbrev mX11_isCloth : Mi := (yX11_isCloth, cX11_isCloth, 2, (some .boolean))
abbrev mX11_isThing : Mi := (yX11_isThing, cX11_isThing, 2, (some .boolean))
abbrev mX11_isOpen : Mi := (yX11_isOpen, cX11_isOpen, 2, (some .boolean))
abbrev mX11_inCloth : Mi := (yX11_inCloth, cX11_inCloth, 2, (some .int))
abbrev mX11_knotOf : Mi := (yX11_knotOf, cX11_knotOf, 3, (some .int))
abbrev mX11_knotsOf : Mi := (yX11_knotsOf, cX11_knotsOf, 3, (some .int))
abbrev mX11_person : Mi := (yX11_person, cX11_person, 2, (some .int))
abbrev mX11_cloth : Mi := (yX11_cloth, cX11_cloth, 3, (some .int))
abbrev mX11_thing : Mi := (yX11_thing, cX11_thing, 3, (some .int))
abbrev mX11_canSet : Mi := (yX11_canSet, cX11_canSet, 4, (some .boolean))
abbrev mX11_set : Mi := (yX11_set, cX11_set, 4, (some .boolean))
abbrev mX11_types : Mi := (yX11_types, cX11_types, 3, none)
abbrev mX11_feed : Mi := (yX11_feed, cX11_feed, 6, (some .int))
abbrev mX11_end : Mi := (yX11_end, cX11_end, 2, (some .boolean))
abbrev mX11_raw : Mi := (yX11_raw, cX11_raw, 2, (some .int))
abbrev mX11_isLetter : Mi := (yX11_isLetter, cX11_isLetter, 2, (some .boolean))
abbrev mX11_isDigit : Mi := (yX11_isDigit, cX11_isDigit, 2, (some .boolean))
abbrev mX11_isMarkSign : Mi := (yX11_isMarkSign, cX11_isMarkSign, 2, (some .boolean))
abbrev mX11_wordAt : Mi := (yX11_wordAt, cX11_wordAt, 6, (some .int))
abbrev mX11_reads : Mi := (yX11_reads, cX11_reads, 2, none)
abbrev mX11_errs : Mi := (yX11_errs, cX11_errs, 2, (some .int))
abbrev mX11_isWord : Mi := (yX11_isWord, cX11_isWord, 2, (some .boolean))
abbrev mX11_isSign : Mi := (yX11_isSign, cX11_isSign, 2, (some .boolean))
abbrev mX11_emits : Mi := (yX11_emits, cX11_emits, 3, none)
abbrev mX11_canAsk : Mi := (yX11_canAsk, cX11_canAsk, 2, (some .boolean))
abbrev mX11_readUnit : Mi := (yX11_readUnit, cX11_readUnit, 2, (some .int))
abbrev mX11_readProduct : Mi := (yX11_readProduct, cX11_readProduct, 2, (some .int))
abbrev mX11_readSum : Mi := (yX11_readSum, cX11_readSum, 2, (some .int))
abbrev mX11_readCompared : Mi := (yX11_readCompared, cX11_readCompared, 2, (some .int))
abbrev mX11_waits : Mi := (yX11_waits, cX11_waits, 2, none)
abbrev mX11_settles : Mi := (yX11_settles, cX11_settles, 2, none)
abbrev mX11_readAny : Mi := (yX11_readAny, cX11_readAny, 4, (some .int))
abbrev mX11_isLineWord : Mi := (yX11_isLineWord, cX11_isLineWord, 1, (some .boolean))
abbrev mX11_readLaw : Mi := (yX11_readLaw, cX11_readLaw, 3, (some .int))
abbrev mX11_takesLaw : Mi := (yX11_takesLaw, cX11_takesLaw, 3, none)
abbrev mX11_readNumber : Mi := (yX11_readNumber, cX11_readNumber, 4, (some .int))
abbrev mX11_readMark : Mi := (yX11_readMark, cX11_readMark, 2, (some .int))
abbrev mX11_readTold : Mi := (yX11_readTold, cX11_readTold, 4, (some .int))
abbrev mX11_readDeed : Mi := (yX11_readDeed, cX11_readDeed, 3, (some .int))
abbrev mX11_readDeeds : Mi := (yX11_readDeeds, cX11_readDeeds, 2, (some .int))
abbrev mX11_readMind : Mi := (yX11_readMind, cX11_readMind, 2, (some .int))
abbrev mX11_readMinds : Mi := (yX11_readMinds, cX11_readMinds, 2, (some .int))
abbrev mX11_readFriend : Mi := (yX11_readFriend, cX11_readFriend, 3, (some .int))
abbrev mX11_readFriends : Mi := (yX11_readFriends, cX11_readFriends, 2, (some .int))
abbrev mX11_readsText : Mi := (yX11_readsText, cX11_readsText, 2, (some .int))
abbrev mX11_takesOther : Mi := (yX11_takesOther, cX11_takesOther, 4, none)
abbrev mX11_text : Mi := (yX11_text, cX11_text, 3, (some .int))
abbrev mX11_fault : Mi := (yX11_fault, cX11_fault, 2, (some .int))
abbrev mX11_twoOf : Mi := (yX11_twoOf, cX11_twoOf, 4, (some .int))
abbrev mX11_runs : Mi := (yX11_runs, cX11_runs, 6, (some .int))
abbrev mX11_lineOf : Mi := (yX11_lineOf, cX11_lineOf, 3, (some .int))
abbrev mX11_openMany : Mi := (yX11_openMany, cX11_openMany, 3, (some .int))
abbrev mX11_asks : Mi := (yX11_asks, cX11_asks, 5, none)
abbrev mX11_lawTells : Mi := (yX11_lawTells, cX11_lawTells, 6, (some .int))
abbrev mX11_tiesOf : Mi := (yX11_tiesOf, cX11_tiesOf, 3, (some .int))
abbrev mX11_slipsOf : Mi := (yX11_slipsOf, cX11_slipsOf, 2, (some .int))
abbrev mX11_tellsOf : Mi := (yX11_tellsOf, cX11_tellsOf, 2, (some .int))
abbrev mX11_notes : Mi := (yX11_notes, cX11_notes, 5, none)
abbrev mX11_canTie : Mi := (yX11_canTie, cX11_canTie, 3, (some .boolean))
abbrev mX11_isTied : Mi := (yX11_isTied, cX11_isTied, 4, none)
abbrev mX11_comesOut : Mi := (yX11_comesOut, cX11_comesOut, 5, none)
abbrev mX11_happens : Mi := (yX11_happens, cX11_happens, 2, (some .boolean))
abbrev mX11_isWashed : Mi := (yX11_isWashed, cX11_isWashed, 4, none)
abbrev mX11_isPulled : Mi := (yX11_isPulled, cX11_isPulled, 3, none)
abbrev mX11_canAct : Mi := (yX11_canAct, cX11_canAct, 4, (some .boolean))
abbrev mX11_does : Mi := (yX11_does, cX11_does, 4, none)
abbrev mX11_act : Mi := (yX11_act, cX11_act, 4, (some .boolean))
abbrev mX11_comesDue : Mi := (yX11_comesDue, cX11_comesDue, 5, (some .boolean))
abbrev mX11_goesBy : Mi := (yX11_goesBy, cX11_goesBy, 3, (some .int))
abbrev mX11_days : Mi := (yX11_days, cX11_days, 4, (some .int))
abbrev mX11_leftTo : Mi := (yX11_leftTo, cX11_leftTo, 4, (some .int))
abbrev mX11_leastDue : Mi := (yX11_leastDue, cX11_leastDue, 4, (some .int))
abbrev mX11_of : Mi := (yX11_of, cX11_of, 5, (some .int))
abbrev mX11_clothOf : Mi := (yX11_clothOf, cX11_clothOf, 3, (some .int))
abbrev mX11_thingOf : Mi := (yX11_thingOf, cX11_thingOf, 3, (some .int))
abbrev mX11_book : Mi := (yX11_book, cX11_book, 3, (some .int))
abbrev mX11_sumOf : Mi := (yX11_sumOf, cX11_sumOf, 5, (some .int))
abbrev mX11_allKnots : Mi := (yX11_allKnots, cX11_allKnots, 3, (some .int))
abbrev mX11_goes : Mi := (yX11_goes, cX11_goes, 4, (some .int))
abbrev mX11_fate : Mi := (yX11_fate, cX11_fate, 3, (some .int))
abbrev mX11_crossing : Mi := (yX11_crossing, cX11_crossing, 2, (some .int))
abbrev mX11_braid : Mi := (yX11_braid, cX11_braid, 6, (some .int))
abbrev mX11_takesOrder : Mi := (yX11_takesOrder, cX11_takesOrder, 6, (some .boolean))
abbrev mX11_numberOfOrder : Mi := (yX11_numberOfOrder, cX11_numberOfOrder, 5, (some .int))
abbrev mX11_takesNumber : Mi := (yX11_takesNumber, cX11_takesNumber, 5, none)
abbrev mX11_turnsFirst : Mi := (yX11_turnsFirst, cX11_turnsFirst, 4, none)
abbrev mX11_fewestTurnings : Mi := (yX11_fewestTurnings, cX11_fewestTurnings, 6, (some .int))
abbrev mX11_turnings : Mi := (yX11_turnings, cX11_turnings, 5, (some .int))
abbrev mX11_folds : Mi := (yX11_folds, cX11_folds, 11, none)
abbrev mX11_strip : Mi := (yX11_strip, cX11_strip, 5, (some .int))
abbrev mX11_answer : Mi := (yX11_answer, cX11_answer, 2, (some .int))
abbrev mX11_boxes : Mi := (yX11_boxes, cX11_boxes, 5, (some .int))
abbrev mX11_piles : Mi := (yX11_piles, cX11_piles, 4, (some .int))
abbrev mX11_dealt : Mi := (yX11_dealt, cX11_dealt, 2, (some .int))
abbrev mX11_key : Mi := (yX11_key, cX11_key, 2, (some .int))
abbrev mX11_looksFor : Mi := (yX11_looksFor, cX11_looksFor, 5, (some .int))
abbrev mX11_table : Mi := (yX11_table, cX11_table, 6, (some .int))
abbrev mX11_ask : Mi := (yX11_ask, cX11_ask, 2, (some .int))
abbrev mX11_askedWhen : Mi := (yX11_askedWhen, cX11_askedWhen, 5, (some .int))
abbrev mX11_goesOut : Mi := (yX11_goesOut, cX11_goesOut, 7, (some .int))
abbrev mX11_pages : Mi := (yX11_pages, cX11_pages, 6, (some .int))
abbrev mX11_casesOf : Mi := (yX11_casesOf, cX11_casesOf, 7, (some .int))
abbrev mX11_isSide : Mi := (yX11_isSide, cX11_isSide, 5, (some .boolean))
abbrev mX11_truth : Mi := (yX11_truth, cX11_truth, 8, (some .int))
abbrev mX11_meetsOf : Mi := (yX11_meetsOf, cX11_meetsOf, 5, (some .int))
abbrev mX11_rounds : Mi := (yX11_rounds, cX11_rounds, 6, (some .int))
abbrev mX11_meets : Mi := (yX11_meets, cX11_meets, 6, (some .int))
abbrev mX11_rows : Mi := (yX11_rows, cX11_rows, 6, (some .int))
abbrev mX11_digit : Mi := (yX11_digit, cX11_digit, 2, (some .int))
abbrev mX11_choicesOf : Mi := (yX11_choicesOf, cX11_choicesOf, 2, (some .int))
abbrev mX11_waysFrom : Mi := (yX11_waysFrom, cX11_waysFrom, 4, (some .int))
abbrev mX11_spelt : Mi := (yX11_spelt, cX11_spelt, 3, (some .int))
abbrev mX11_areThree : Mi := (yX11_areThree, cX11_areThree, 2, (some .boolean))
abbrev mX11_goodFilling : Mi := (yX11_goodFilling, cX11_goodFilling, 5, (some .int))
abbrev mX11_game : Mi := (yX11_game, cX11_game, 5, (some .int))
abbrev mX11_keeps : Mi := (yX11_keeps, cX11_keeps, 2, (some .int))
abbrev mX11_keepsLaw : Mi := (yX11_keepsLaw, cX11_keepsLaw, 2, none)
abbrev mX11_keepsTold : Mi := (yX11_keepsTold, cX11_keepsTold, 2, none)
abbrev mX11_image : Mi := (yX11_image, cX11_image, 3, (some .boolean))
abbrev mX11_setThatIs : Mi := (yX11_setThatIs, cX11_setThatIs, 4, (some .int))
abbrev mX11_look : Mi := (yX11_look, cX11_look, 2, (some .int))
abbrev mJ6_bitCount_0f7a4 : Mi := (yJ6_bitCount_0f7a4, cJ6_bitCount_0f7a4, 1, (some .int))
abbrev mJ9_floorMod_7cf53 : Mi := (yJ9_floorMod_7cf53, cJ9_floorMod_7cf53, 3, (some .int))
abbrev mJ9_abs_0f7a4 : Mi := (yJ9_abs_0f7a4, cJ9_abs_0f7a4, 1, (some .int))
abbrev mJ9_max_7cf53 : Mi := (yJ9_max_7cf53, cJ9_max_7cf53, 2, (some .int))
abbrev mJ9_min_7cf53 : Mi := (yJ9_min_7cf53, cJ9_min_7cf53, 2, (some .int))
abbrev mJ0_length_8abf5 : Mi := (yJ0_length_8abf5, cJ0_length_8abf5, 1, (some .int))
abbrev mJ0_charAt_5068e : Mi := (yJ0_charAt_5068e, cJ0_charAt_5068e, 2, (some .char))
abbrev mJ0_coder_7d493 : Mi := (yJ0_coder_7d493, cJ0_coder_7d493, 1, (some .byte))
abbrev mJ0_isLatin1_aae02 : Mi := (yJ0_isLatin1_aae02, cJ0_isLatin1_aae02, 1, (some .boolean))
abbrev mJ0_checkIndex_df160 : Mi := (yJ0_checkIndex_df160, cJ0_checkIndex_df160, 2, none)
abbrev mJ1_charAt_3b067 : Mi := (yJ1_charAt_3b067, cJ1_charAt_3b067, 2, (some .char))
abbrev mJ2_getChar_3b067 : Mi := (yJ2_getChar_3b067, cJ2_getChar_3b067, 2, (some .char))
abbrev mJ2_length_9d52b : Mi := (yJ2_length_9d52b, cJ2_length_9d52b, 1, (some .int))
abbrev mJ2_charAt_3b067 : Mi := (yJ2_charAt_3b067, cJ2_charAt_3b067, 2, (some .char))
abbrev mJ2_checkIndex_2214a : Mi := (yJ2_checkIndex_2214a, cJ2_checkIndex_2214a, 2, none)
abbrev mJ7_fill_53178 : Mi := (yJ7_fill_53178, cJ7_fill_53178, 4, none)
abbrev mJ3_checkIndex_8e157 : Mi := (yJ3_checkIndex_8e157, cJ3_checkIndex_8e157, 3, (some .int))
theorem mo_X0_copy : MOk mX0_copy 1 := ⟨tb_5 (i := 102) rfl rfl, tb_1 (i := 4) rfl rfl, ⟨by decide, by decide⟩, by decide +kernel⟩
theorem mv_X0_copy : MVk mX0_copy := ⟨tb_5 (i := 100) rfl rfl, tb_5 (i := 101) rfl rfl⟩
theorem mo_X0_read : MOk mX0_read 2 := ⟨tb_4 (i := 89) rfl rfl, tb_1 (i := 4) rfl rfl, ⟨by decide, by decide⟩, by decide +kernel⟩
theorem mv_X0_read : MVk mX0_read := ⟨tb_4 (i := 87) rfl rfl, tb_4 (i := 88) rfl rfl⟩
theorem mo_X0_write : MOk mX0_write 4 := ⟨tb_3 (i := 60) rfl rfl, tb_1 (i := 4) rfl rfl, ⟨by decide, by decide⟩, by decide +kernel⟩
theorem mv_X0_write : MVk mX0_write := ⟨tb_3 (i := 58) rfl rfl, tb_3 (i := 59) rfl rfl⟩
theorem mo_X1_copy : MOk mX1_copy 1 := ⟨tb_5 (i := 97) rfl rfl, tb_1 (i := 2) rfl rfl, ⟨by decide, by decide⟩, by decide +kernel⟩
theorem mv_X1_copy : MVk mX1_copy := ⟨tb_5 (i := 95) rfl rfl, tb_5 (i := 96) rfl rfl⟩
theorem mo_X1_askLaw : MOk mX1_askLaw 4 := ⟨tb_3 (i := 6) rfl rfl, tb_1 (i := 2) rfl rfl, ⟨by decide, by decide⟩, by decide +kernel⟩
theorem mv_X1_askLaw : MVk mX1_askLaw := ⟨tb_3 (i := 4) rfl rfl, tb_3 (i := 5) rfl rfl⟩
theorem mo_X1_see : MOk mX1_see 3 := ⟨tb_3 (i := 12) rfl rfl, tb_1 (i := 2) rfl rfl, ⟨by decide, by decide⟩, by decide +kernel⟩
theorem mv_X1_see : MVk mX1_see := ⟨tb_3 (i := 11) rfl rfl, tb_0 (i := 3) rfl rfl⟩
theorem mo_X1_customary : MOk mX1_customary 1 := ⟨tb_3 (i := 40) rfl rfl, tb_1 (i := 2) rfl rfl, ⟨by decide, by decide⟩, by decide +kernel⟩
theorem mv_X1_customary : MVk mX1_customary := ⟨tb_3 (i := 39) rfl rfl, tb_0 (i := 5) rfl rfl⟩
theorem mo_X1_held : MOk mX1_held 3 := ⟨tb_3 (i := 48) rfl rfl, tb_1 (i := 2) rfl rfl, ⟨by decide, by decide⟩, by decide +kernel⟩
theorem ms_X1_held : Cond.static (mY mX1_held) ∈ tb := tb_3 (i := 47) rfl rfl
theorem mo_X1_doDeed : MOk mX1_doDeed 4 := ⟨tb_2 (i := 237) rfl rfl, tb_1 (i := 2) rfl rfl, ⟨by decide, by decide⟩, by decide +kernel⟩
theorem mv_X1_doDeed : MVk mX1_doDeed := ⟨tb_2 (i := 235) rfl rfl, tb_2 (i := 236) rfl rfl⟩
theorem mo_X1_tie : MOk mX1_tie 3 := ⟨tb_3 (i := 2) rfl rfl, tb_1 (i := 2) rfl rfl, ⟨by decide, by decide⟩, by decide +kernel⟩
theorem mv_X1_tie : MVk mX1_tie := ⟨tb_3 (i := 1) rfl rfl, tb_0 (i := 2) rfl rfl⟩
theorem mo_X1_wash : MOk mX1_wash 2 := ⟨tb_3 (i := 65) rfl rfl, tb_1 (i := 2) rfl rfl, ⟨by decide, by decide⟩, by decide +kernel⟩
theorem mv_X1_wash : MVk mX1_wash := ⟨tb_3 (i := 64) rfl rfl, tb_0 (i := 6) rfl rfl⟩
theorem mo_X1_pull : MOk mX1_pull 2 := ⟨tb_3 (i := 87) rfl rfl, tb_1 (i := 2) rfl rfl, ⟨by decide, by decide⟩, by decide +kernel⟩
theorem mv_X1_pull : MVk mX1_pull := ⟨tb_3 (i := 86) rfl rfl, tb_0 (i := 8) rfl rfl⟩
theorem mo_X1_passDay : MOk mX1_passDay 1 := ⟨tb_3 (i := 95) rfl rfl, tb_1 (i := 2) rfl rfl, ⟨by decide, by decide⟩, by decide +kernel⟩
theorem mv_X1_passDay : MVk mX1_passDay := ⟨tb_3 (i := 93) rfl rfl, tb_3 (i := 94) rfl rfl⟩
theorem mo_X1_isTold : MOk mX1_isTold 2 := ⟨tb_3 (i := 100) rfl rfl, tb_1 (i := 2) rfl rfl, ⟨by decide, by decide⟩, by decide +kernel⟩
theorem mv_X1_isTold : MVk mX1_isTold := ⟨tb_3 (i := 99) rfl rfl, tb_0 (i := 9) rfl rfl⟩
theorem mo_X1_settle : MOk mX1_settle 3 := ⟨tb_3 (i := 108) rfl rfl, tb_1 (i := 2) rfl rfl, ⟨by decide, by decide⟩, by decide +kernel⟩
theorem mv_X1_settle : MVk mX1_settle := ⟨tb_3 (i := 107) rfl rfl, tb_0 (i := 10) rfl rfl⟩
theorem mo_X2_copy : MOk mX2_copy 1 := ⟨tb_4 (i := 3) rfl rfl, tb_1 (i := 5) rfl rfl, ⟨by decide, by decide⟩, by decide +kernel⟩
theorem mv_X2_copy : MVk mX2_copy := ⟨tb_4 (i := 1) rfl rfl, tb_4 (i := 2) rfl rfl⟩
theorem mo_X2_empty : MOk mX2_empty 0 := ⟨tb_3 (i := 136) rfl rfl, tb_1 (i := 5) rfl rfl, ⟨by decide, by decide⟩, by decide +kernel⟩
theorem mv_X2_empty : MVk mX2_empty := ⟨tb_3 (i := 134) rfl rfl, tb_3 (i := 135) rfl rfl⟩
theorem mo_X2_put : MOk mX2_put 1 := ⟨tb_3 (i := 222) rfl rfl, tb_1 (i := 5) rfl rfl, ⟨by decide, by decide⟩, by decide +kernel⟩
theorem mv_X2_put : MVk mX2_put := ⟨tb_3 (i := 220) rfl rfl, tb_3 (i := 221) rfl rfl⟩
theorem mo_X2_addLine : MOk mX2_addLine 3 := ⟨tb_3 (i := 239) rfl rfl, tb_1 (i := 5) rfl rfl, ⟨by decide, by decide⟩, by decide +kernel⟩
theorem mv_X2_addLine : MVk mX2_addLine := ⟨tb_3 (i := 237) rfl rfl, tb_3 (i := 238) rfl rfl⟩
theorem mo_X2_lineFor : MOk mX2_lineFor 2 := ⟨tb_3 (i := 31) rfl rfl, tb_1 (i := 5) rfl rfl, ⟨by decide, by decide⟩, by decide +kernel⟩
theorem mv_X2_lineFor : MVk mX2_lineFor := ⟨tb_3 (i := 29) rfl rfl, tb_3 (i := 30) rfl rfl⟩
theorem mo_X2_told : MOk mX2_told 2 := ⟨tb_3 (i := 44) rfl rfl, tb_1 (i := 5) rfl rfl, ⟨by decide, by decide⟩, by decide +kernel⟩
theorem mv_X2_told : MVk mX2_told := ⟨tb_3 (i := 42) rfl rfl, tb_3 (i := 43) rfl rfl⟩
theorem mo_X2_worth : MOk mX2_worth 3 := ⟨tb_3 (i := 35) rfl rfl, tb_1 (i := 5) rfl rfl, ⟨by decide, by decide⟩, by decide +kernel⟩
theorem mv_X2_worth : MVk mX2_worth := ⟨tb_3 (i := 34) rfl rfl, tb_0 (i := 4) rfl rfl⟩
theorem mo_X3_readLaw : MOk mX3_readLaw 1 := ⟨tb_3 (i := 132) rfl rfl, tb_1 (i := 10) rfl rfl, ⟨by decide, by decide⟩, by decide +kernel⟩
theorem mv_X3_readLaw : MVk mX3_readLaw := ⟨tb_3 (i := 130) rfl rfl, tb_3 (i := 131) rfl rfl⟩
theorem mo_X3_readCondition : MOk mX3_readCondition 2 := ⟨tb_3 (i := 226) rfl rfl, tb_1 (i := 10) rfl rfl, ⟨by decide, by decide⟩, by decide +kernel⟩
theorem mv_X3_readCondition : MVk mX3_readCondition := ⟨tb_3 (i := 225) rfl rfl, tb_0 (i := 14) rfl rfl⟩
theorem mo_X3_readClaim : MOk mX3_readClaim 2 := ⟨tb_3 (i := 230) rfl rfl, tb_1 (i := 10) rfl rfl, ⟨by decide, by decide⟩, by decide +kernel⟩
theorem mv_X3_readClaim : MVk mX3_readClaim := ⟨tb_3 (i := 229) rfl rfl, tb_0 (i := 15) rfl rfl⟩
theorem mo_X3_readSum : MOk mX3_readSum 1 := ⟨tb_3 (i := 208) rfl rfl, tb_1 (i := 10) rfl rfl, ⟨by decide, by decide⟩, by decide +kernel⟩
theorem mv_X3_readSum : MVk mX3_readSum := ⟨tb_3 (i := 207) rfl rfl, tb_0 (i := 12) rfl rfl⟩
theorem mo_X3_readProduct : MOk mX3_readProduct 1 := ⟨tb_3 (i := 212) rfl rfl, tb_1 (i := 10) rfl rfl, ⟨by decide, by decide⟩, by decide +kernel⟩
theorem mv_X3_readProduct : MVk mX3_readProduct := ⟨tb_3 (i := 211) rfl rfl, tb_0 (i := 13) rfl rfl⟩
theorem mo_X4_readLines : MOk mX4_readLines 3 := ⟨tb_4 (i := 8) rfl rfl, tb_1 (i := 11) rfl rfl, ⟨by decide, by decide⟩, by decide +kernel⟩
theorem mv_X4_readLines : MVk mX4_readLines := ⟨tb_4 (i := 6) rfl rfl, tb_4 (i := 7) rfl rfl⟩
theorem mo_X4_readLine : MOk mX4_readLine 3 := ⟨tb_4 (i := 13) rfl rfl, tb_1 (i := 11) rfl rfl, ⟨by decide, by decide⟩, by decide +kernel⟩
theorem mv_X4_readLine : MVk mX4_readLine := ⟨tb_4 (i := 12) rfl rfl, tb_0 (i := 16) rfl rfl⟩
theorem mo_X4_takeNumber : MOk mX4_takeNumber 2 := ⟨tb_4 (i := 22) rfl rfl, tb_1 (i := 11) rfl rfl, ⟨by decide, by decide⟩, by decide +kernel⟩
theorem mv_X4_takeNumber : MVk mX4_takeNumber := ⟨tb_4 (i := 21) rfl rfl, tb_0 (i := 18) rfl rfl⟩
theorem mo_X4_readDeed : MOk mX4_readDeed 3 := ⟨tb_4 (i := 32) rfl rfl, tb_1 (i := 11) rfl rfl, ⟨by decide, by decide⟩, by decide +kernel⟩
theorem mv_X4_readDeed : MVk mX4_readDeed := ⟨tb_4 (i := 31) rfl rfl, tb_0 (i := 19) rfl rfl⟩
theorem mo_X4_readMind : MOk mX4_readMind 3 := ⟨tb_4 (i := 37) rfl rfl, tb_1 (i := 11) rfl rfl, ⟨by decide, by decide⟩, by decide +kernel⟩
theorem mv_X4_readMind : MVk mX4_readMind := ⟨tb_4 (i := 36) rfl rfl, tb_0 (i := 20) rfl rfl⟩
theorem mo_X4_readFriends : MOk mX4_readFriends 2 := ⟨tb_4 (i := 18) rfl rfl, tb_1 (i := 11) rfl rfl, ⟨by decide, by decide⟩, by decide +kernel⟩
theorem mv_X4_readFriends : MVk mX4_readFriends := ⟨tb_4 (i := 17) rfl rfl, tb_0 (i := 17) rfl rfl⟩
theorem mo_X5_copy : MOk mX5_copy 1 := ⟨tb_4 (i := 45) rfl rfl, tb_1 (i := 6) rfl rfl, ⟨by decide, by decide⟩, by decide +kernel⟩
theorem mv_X5_copy : MVk mX5_copy := ⟨tb_4 (i := 43) rfl rfl, tb_4 (i := 44) rfl rfl⟩
theorem mo_X5_add : MOk mX5_add 4 := ⟨tb_4 (i := 28) rfl rfl, tb_1 (i := 6) rfl rfl, ⟨by decide, by decide⟩, by decide +kernel⟩
theorem mv_X5_add : MVk mX5_add := ⟨tb_4 (i := 26) rfl rfl, tb_4 (i := 27) rfl rfl⟩
theorem mo_X5_friendsOf : MOk mX5_friendsOf 1 := ⟨tb_3 (i := 17) rfl rfl, tb_1 (i := 6) rfl rfl, ⟨by decide, by decide⟩, by decide +kernel⟩
theorem mv_X5_friendsOf : MVk mX5_friendsOf := ⟨tb_3 (i := 15) rfl rfl, tb_3 (i := 16) rfl rfl⟩
theorem mo_X6_strandEnd : MOk mX6_strandEnd 2 := ⟨tb_4 (i := 131) rfl rfl, tb_1 (i := 12) rfl rfl, ⟨by decide, by decide⟩, by decide +kernel⟩
theorem ms_X6_strandEnd : Cond.static (mY mX6_strandEnd) ∈ tb := tb_4 (i := 130) rfl rfl
theorem mo_X6_crossingsLeft : MOk mX6_crossingsLeft 1 := ⟨tb_4 (i := 124) rfl rfl, tb_1 (i := 12) rfl rfl, ⟨by decide, by decide⟩, by decide +kernel⟩
theorem mv_X6_crossingsLeft : MVk mX6_crossingsLeft := ⟨tb_4 (i := 122) rfl rfl, tb_4 (i := 123) rfl rfl⟩
theorem mo_X6_layRow : MOk mX6_layRow 1 := ⟨tb_4 (i := 142) rfl rfl, tb_1 (i := 12) rfl rfl, ⟨by decide, by decide⟩, by decide +kernel⟩
theorem mv_X6_layRow : MVk mX6_layRow := ⟨tb_4 (i := 140) rfl rfl, tb_4 (i := 141) rfl rfl⟩
theorem mo_X6_strangeCouples : MOk mX6_strangeCouples 0 := ⟨tb_4 (i := 154) rfl rfl, tb_1 (i := 12) rfl rfl, ⟨by decide, by decide⟩, by decide +kernel⟩
theorem mv_X6_strangeCouples : MVk mX6_strangeCouples := ⟨tb_4 (i := 152) rfl rfl, tb_4 (i := 153) rfl rfl⟩
theorem mo_X6_fewestTurnings : MOk mX6_fewestTurnings 0 := ⟨tb_4 (i := 146) rfl rfl, tb_1 (i := 12) rfl rfl, ⟨by decide, by decide⟩, by decide +kernel⟩
theorem mv_X6_fewestTurnings : MVk mX6_fewestTurnings := ⟨tb_4 (i := 144) rfl rfl, tb_4 (i := 145) rfl rfl⟩
theorem mo_X6_isInOrderBy : MOk mX6_isInOrderBy 1 := ⟨tb_4 (i := 150) rfl rfl, tb_1 (i := 12) rfl rfl, ⟨by decide, by decide⟩, by decide +kernel⟩
theorem mv_X6_isInOrderBy : MVk mX6_isInOrderBy := ⟨tb_4 (i := 149) rfl rfl, tb_0 (i := 23) rfl rfl⟩
theorem mo_X6_turn : MOk mX6_turn 1 := ⟨tb_4 (i := 158) rfl rfl, tb_1 (i := 12) rfl rfl, ⟨by decide, by decide⟩, by decide +kernel⟩
theorem mv_X6_turn : MVk mX6_turn := ⟨tb_4 (i := 157) rfl rfl, tb_0 (i := 24) rfl rfl⟩
theorem mo_X6_cellAt : MOk mX6_cellAt 3 := ⟨tb_4 (i := 166) rfl rfl, tb_1 (i := 12) rfl rfl, ⟨by decide, by decide⟩, by decide +kernel⟩
theorem ms_X6_cellAt : Cond.static (mY mX6_cellAt) ∈ tb := tb_4 (i := 165) rfl rfl
theorem mo_X6_folded : MOk mX6_folded 3 := ⟨tb_4 (i := 169) rfl rfl, tb_1 (i := 12) rfl rfl, ⟨by decide, by decide⟩, by decide +kernel⟩
theorem ms_X6_folded : Cond.static (mY mX6_folded) ∈ tb := tb_4 (i := 168) rfl rfl
theorem mo_X6_boxAfter : MOk mX6_boxAfter 2 := ⟨tb_4 (i := 181) rfl rfl, tb_1 (i := 12) rfl rfl, ⟨by decide, by decide⟩, by decide +kernel⟩
theorem ms_X6_boxAfter : Cond.static (mY mX6_boxAfter) ∈ tb := tb_4 (i := 180) rfl rfl
theorem mo_X6_nextAsked : MOk mX6_nextAsked 1 := ⟨tb_4 (i := 185) rfl rfl, tb_1 (i := 12) rfl rfl, ⟨by decide, by decide⟩, by decide +kernel⟩
theorem ms_X6_nextAsked : Cond.static (mY mX6_nextAsked) ∈ tb := tb_4 (i := 184) rfl rfl
theorem mo_X6_dealtTo : MOk mX6_dealtTo 2 := ⟨tb_4 (i := 193) rfl rfl, tb_1 (i := 12) rfl rfl, ⟨by decide, by decide⟩, by decide +kernel⟩
theorem ms_X6_dealtTo : Cond.static (mY mX6_dealtTo) ∈ tb := tb_4 (i := 192) rfl rfl
theorem mo_X6_layTable : MOk mX6_layTable 2 := ⟨tb_4 (i := 210) rfl rfl, tb_1 (i := 12) rfl rfl, ⟨by decide, by decide⟩, by decide +kernel⟩
theorem mv_X6_layTable : MVk mX6_layTable := ⟨tb_4 (i := 208) rfl rfl, tb_4 (i := 209) rfl rfl⟩
theorem mo_X6_looksFor : MOk mX6_looksFor 2 := ⟨tb_4 (i := 217) rfl rfl, tb_1 (i := 12) rfl rfl, ⟨by decide, by decide⟩, by decide +kernel⟩
theorem mv_X6_looksFor : MVk mX6_looksFor := ⟨tb_4 (i := 215) rfl rfl, tb_4 (i := 216) rfl rfl⟩
theorem mo_X6_lastLookFound : MOk mX6_lastLookFound 3 := ⟨tb_4 (i := 229) rfl rfl, tb_1 (i := 12) rfl rfl, ⟨by decide, by decide⟩, by decide +kernel⟩
theorem mv_X6_lastLookFound : MVk mX6_lastLookFound := ⟨tb_4 (i := 227) rfl rfl, tb_4 (i := 228) rfl rfl⟩
theorem mo_X6_placeBehind : MOk mX6_placeBehind 3 := ⟨tb_4 (i := 220) rfl rfl, tb_1 (i := 12) rfl rfl, ⟨by decide, by decide⟩, by decide +kernel⟩
theorem ms_X6_placeBehind : Cond.static (mY mX6_placeBehind) ∈ tb := tb_4 (i := 219) rfl rfl
theorem mo_X6_isPlace : MOk mX6_isPlace 1 := ⟨tb_4 (i := 224) rfl rfl, tb_1 (i := 12) rfl rfl, ⟨by decide, by decide⟩, by decide +kernel⟩
theorem mv_X6_isPlace : MVk mX6_isPlace := ⟨tb_4 (i := 223) rfl rfl, tb_0 (i := 25) rfl rfl⟩
theorem mo_X6_misses : MOk mX6_misses 3 := ⟨tb_5 (i := 0) rfl rfl, tb_1 (i := 12) rfl rfl, ⟨by decide, by decide⟩, by decide +kernel⟩
theorem ms_X6_misses : Cond.static (mY mX6_misses) ∈ tb := tb_4 (i := 239) rfl rfl
theorem mo_X6_whichGoes : MOk mX6_whichGoes 4 := ⟨tb_5 (i := 4) rfl rfl, tb_1 (i := 12) rfl rfl, ⟨by decide, by decide⟩, by decide +kernel⟩
theorem ms_X6_whichGoes : Cond.static (mY mX6_whichGoes) ∈ tb := tb_5 (i := 3) rfl rfl
theorem mo_X6_stepsTo : MOk mX6_stepsTo 4 := ⟨tb_5 (i := 7) rfl rfl, tb_1 (i := 12) rfl rfl, ⟨by decide, by decide⟩, by decide +kernel⟩
theorem ms_X6_stepsTo : Cond.static (mY mX6_stepsTo) ∈ tb := tb_5 (i := 6) rfl rfl
theorem mo_X6_sidesWith : MOk mX6_sidesWith 2 := ⟨tb_5 (i := 15) rfl rfl, tb_1 (i := 12) rfl rfl, ⟨by decide, by decide⟩, by decide +kernel⟩
theorem ms_X6_sidesWith : Cond.static (mY mX6_sidesWith) ∈ tb := tb_5 (i := 14) rfl rfl
theorem mo_X6_casesOfOneSide : MOk mX6_casesOfOneSide 1 := ⟨tb_5 (i := 27) rfl rfl, tb_1 (i := 12) rfl rfl, ⟨by decide, by decide⟩, by decide +kernel⟩
theorem ms_X6_casesOfOneSide : Cond.static (mY mX6_casesOfOneSide) ∈ tb := tb_5 (i := 26) rfl rfl
theorem mo_X6_isSide : MOk mX6_isSide 3 := ⟨tb_5 (i := 18) rfl rfl, tb_1 (i := 12) rfl rfl, ⟨by decide, by decide⟩, by decide +kernel⟩
theorem ms_X6_isSide : Cond.static (mY mX6_isSide) ∈ tb := tb_5 (i := 17) rfl rfl
theorem mo_X6_casesOf : MOk mX6_casesOf 2 := ⟨tb_5 (i := 21) rfl rfl, tb_1 (i := 12) rfl rfl, ⟨by decide, by decide⟩, by decide +kernel⟩
theorem ms_X6_casesOf : Cond.static (mY mX6_casesOf) ∈ tb := tb_5 (i := 20) rfl rfl
theorem mo_X6_meetsInRound : MOk mX6_meetsInRound 3 := ⟨tb_5 (i := 34) rfl rfl, tb_1 (i := 12) rfl rfl, ⟨by decide, by decide⟩, by decide +kernel⟩
theorem ms_X6_meetsInRound : Cond.static (mY mX6_meetsInRound) ∈ tb := tb_5 (i := 33) rfl rfl
theorem mo_X6_waysInRows : MOk mX6_waysInRows 2 := ⟨tb_5 (i := 48) rfl rfl, tb_1 (i := 12) rfl rfl, ⟨by decide, by decide⟩, by decide +kernel⟩
theorem ms_X6_waysInRows : Cond.static (mY mX6_waysInRows) ∈ tb := tb_5 (i := 47) rfl rfl
theorem mo_X6_lettersOf : MOk mX6_lettersOf 1 := ⟨tb_5 (i := 63) rfl rfl, tb_1 (i := 12) rfl rfl, ⟨by decide, by decide⟩, by decide +kernel⟩
theorem ms_X6_lettersOf : Cond.static (mY mX6_lettersOf) ∈ tb := tb_5 (i := 62) rfl rfl
theorem mo_X6_spellings : MOk mX6_spellings 2 := ⟨tb_5 (i := 59) rfl rfl, tb_1 (i := 12) rfl rfl, ⟨by decide, by decide⟩, by decide +kernel⟩
theorem ms_X6_spellings : Cond.static (mY mX6_spellings) ∈ tb := tb_5 (i := 58) rfl rfl
theorem mo_X6_letterAt : MOk mX6_letterAt 3 := ⟨tb_5 (i := 66) rfl rfl, tb_1 (i := 12) rfl rfl, ⟨by decide, by decide⟩, by decide +kernel⟩
theorem ms_X6_letterAt : Cond.static (mY mX6_letterAt) ∈ tb := tb_5 (i := 65) rfl rfl
theorem mo_X6_winningPlace : MOk mX6_winningPlace 2 := ⟨tb_5 (i := 74) rfl rfl, tb_1 (i := 12) rfl rfl, ⟨by decide, by decide⟩, by decide +kernel⟩
theorem ms_X6_winningPlace : Cond.static (mY mX6_winningPlace) ∈ tb := tb_5 (i := 73) rfl rfl
theorem mo_X6_hasThree : MOk mX6_hasThree 1 := ⟨tb_5 (i := 77) rfl rfl, tb_1 (i := 12) rfl rfl, ⟨by decide, by decide⟩, by decide +kernel⟩
theorem ms_X6_hasThree : Cond.static (mY mX6_hasThree) ∈ tb := tb_5 (i := 76) rfl rfl
theorem mo_X6_isSafe : MOk mX6_isSafe 2 := ⟨tb_5 (i := 80) rfl rfl, tb_1 (i := 12) rfl rfl, ⟨by decide, by decide⟩, by decide +kernel⟩
theorem ms_X6_isSafe : Cond.static (mY mX6_isSafe) ∈ tb := tb_5 (i := 79) rfl rfl
theorem mo_X6_nimberLeft : MOk mX6_nimberLeft 2 := ⟨tb_5 (i := 83) rfl rfl, tb_1 (i := 12) rfl rfl, ⟨by decide, by decide⟩, by decide +kernel⟩
theorem ms_X6_nimberLeft : Cond.static (mY mX6_nimberLeft) ∈ tb := tb_5 (i := 82) rfl rfl
theorem mo_X7_put : MOk mX7_put 1 := ⟨tb_3 (i := 116) rfl rfl, tb_1 (i := 9) rfl rfl, ⟨by decide, by decide⟩, by decide +kernel⟩
theorem mv_X7_put : MVk mX7_put := ⟨tb_3 (i := 114) rfl rfl, tb_3 (i := 115) rfl rfl⟩
theorem mo_X7_rewind : MOk mX7_rewind 0 := ⟨tb_3 (i := 128) rfl rfl, tb_1 (i := 9) rfl rfl, ⟨by decide, by decide⟩, by decide +kernel⟩
theorem mv_X7_rewind : MVk mX7_rewind := ⟨tb_3 (i := 126) rfl rfl, tb_3 (i := 127) rfl rfl⟩
theorem mo_X7_next : MOk mX7_next 0 := ⟨tb_3 (i := 140) rfl rfl, tb_1 (i := 9) rfl rfl, ⟨by decide, by decide⟩, by decide +kernel⟩
theorem mv_X7_next : MVk mX7_next := ⟨tb_3 (i := 138) rfl rfl, tb_3 (i := 139) rfl rfl⟩
theorem mo_X7_isLetter : MOk mX7_isLetter 1 := ⟨tb_3 (i := 146) rfl rfl, tb_1 (i := 9) rfl rfl, ⟨by decide, by decide⟩, by decide +kernel⟩
theorem ms_X7_isLetter : Cond.static (mY mX7_isLetter) ∈ tb := tb_3 (i := 145) rfl rfl
theorem mo_X7_isDigit : MOk mX7_isDigit 1 := ⟨tb_3 (i := 143) rfl rfl, tb_1 (i := 9) rfl rfl, ⟨by decide, by decide⟩, by decide +kernel⟩
theorem ms_X7_isDigit : Cond.static (mY mX7_isDigit) ∈ tb := tb_3 (i := 142) rfl rfl
theorem mo_X7_keyword : MOk mX7_keyword 0 := ⟨tb_3 (i := 150) rfl rfl, tb_1 (i := 9) rfl rfl, ⟨by decide, by decide⟩, by decide +kernel⟩
theorem mv_X7_keyword : MVk mX7_keyword := ⟨tb_3 (i := 149) rfl rfl, tb_0 (i := 11) rfl rfl⟩
theorem mo_X7_refuse : MOk mX7_refuse 1 := ⟨tb_3 (i := 204) rfl rfl, tb_1 (i := 9) rfl rfl, ⟨by decide, by decide⟩, by decide +kernel⟩
theorem mv_X7_refuse : MVk mX7_refuse := ⟨tb_3 (i := 202) rfl rfl, tb_3 (i := 203) rfl rfl⟩
theorem mo_X7_take : MOk mX7_take 1 := ⟨tb_3 (i := 234) rfl rfl, tb_1 (i := 9) rfl rfl, ⟨by decide, by decide⟩, by decide +kernel⟩
theorem mv_X7_take : MVk mX7_take := ⟨tb_3 (i := 232) rfl rfl, tb_3 (i := 233) rfl rfl⟩
theorem mo_X7_isNumber : MOk mX7_isNumber 2 := ⟨tb_3 (i := 216) rfl rfl, tb_1 (i := 9) rfl rfl, ⟨by decide, by decide⟩, by decide +kernel⟩
theorem mv_X7_isNumber : MVk mX7_isNumber := ⟨tb_3 (i := 214) rfl rfl, tb_3 (i := 215) rfl rfl⟩
theorem mo_X8_copy : MOk mX8_copy 1 := ⟨tb_5 (i := 109) rfl rfl, tb_1 (i := 7) rfl rfl, ⟨by decide, by decide⟩, by decide +kernel⟩
theorem mv_X8_copy : MVk mX8_copy := ⟨tb_5 (i := 107) rfl rfl, tb_5 (i := 108) rfl rfl⟩
theorem mo_X8_empty : MOk mX8_empty 0 := ⟨tb_4 (i := 112) rfl rfl, tb_1 (i := 7) rfl rfl, ⟨by decide, by decide⟩, by decide +kernel⟩
theorem mv_X8_empty : MVk mX8_empty := ⟨tb_4 (i := 110) rfl rfl, tb_4 (i := 111) rfl rfl⟩
theorem mo_X8_tell : MOk mX8_tell 1 := ⟨tb_4 (i := 116) rfl rfl, tb_1 (i := 7) rfl rfl, ⟨by decide, by decide⟩, by decide +kernel⟩
theorem mv_X8_tell : MVk mX8_tell := ⟨tb_4 (i := 114) rfl rfl, tb_4 (i := 115) rfl rfl⟩
theorem mo_X8_get : MOk mX8_get 1 := ⟨tb_4 (i := 128) rfl rfl, tb_1 (i := 7) rfl rfl, ⟨by decide, by decide⟩, by decide +kernel⟩
theorem mv_X8_get : MVk mX8_get := ⟨tb_4 (i := 126) rfl rfl, tb_4 (i := 127) rfl rfl⟩
theorem mo_X9_copy : MOk mX9_copy 1 := ⟨tb_2 (i := 230) rfl rfl, tb_1 (i := 3) rfl rfl, ⟨by decide, by decide⟩, by decide +kernel⟩
theorem mv_X9_copy : MVk mX9_copy := ⟨tb_2 (i := 228) rfl rfl, tb_2 (i := 229) rfl rfl⟩
theorem mo_X9_hasPerson : MOk mX9_hasPerson 1 := ⟨tb_2 (i := 185) rfl rfl, tb_1 (i := 3) rfl rfl, ⟨by decide, by decide⟩, by decide +kernel⟩
theorem mv_X9_hasPerson : MVk mX9_hasPerson := ⟨tb_2 (i := 183) rfl rfl, tb_2 (i := 184) rfl rfl⟩
theorem mo_X9_hasCloth : MOk mX9_hasCloth 1 := ⟨tb_2 (i := 206) rfl rfl, tb_1 (i := 3) rfl rfl, ⟨by decide, by decide⟩, by decide +kernel⟩
theorem mv_X9_hasCloth : MVk mX9_hasCloth := ⟨tb_2 (i := 204) rfl rfl, tb_2 (i := 205) rfl rfl⟩
theorem mo_X9_hasThing : MOk mX9_hasThing 1 := ⟨tb_2 (i := 214) rfl rfl, tb_1 (i := 3) rfl rfl, ⟨by decide, by decide⟩, by decide +kernel⟩
theorem mv_X9_hasThing : MVk mX9_hasThing := ⟨tb_2 (i := 212) rfl rfl, tb_2 (i := 213) rfl rfl⟩
theorem mo_X9_addPerson : MOk mX9_addPerson 1 := ⟨tb_2 (i := 169) rfl rfl, tb_1 (i := 3) rfl rfl, ⟨by decide, by decide⟩, by decide +kernel⟩
theorem mv_X9_addPerson : MVk mX9_addPerson := ⟨tb_2 (i := 167) rfl rfl, tb_2 (i := 168) rfl rfl⟩
theorem mo_X9_addCloth : MOk mX9_addCloth 1 := ⟨tb_2 (i := 181) rfl rfl, tb_1 (i := 3) rfl rfl, ⟨by decide, by decide⟩, by decide +kernel⟩
theorem mv_X9_addCloth : MVk mX9_addCloth := ⟨tb_2 (i := 179) rfl rfl, tb_2 (i := 180) rfl rfl⟩
theorem mo_X9_addThing : MOk mX9_addThing 2 := ⟨tb_2 (i := 193) rfl rfl, tb_1 (i := 3) rfl rfl, ⟨by decide, by decide⟩, by decide +kernel⟩
theorem mv_X9_addThing : MVk mX9_addThing := ⟨tb_2 (i := 191) rfl rfl, tb_2 (i := 192) rfl rfl⟩
theorem mo_X9_change : MOk mX9_change 3 := ⟨tb_2 (i := 201) rfl rfl, tb_1 (i := 3) rfl rfl, ⟨by decide, by decide⟩, by decide +kernel⟩
theorem mv_X9_change : MVk mX9_change := ⟨tb_2 (i := 199) rfl rfl, tb_2 (i := 200) rfl rfl⟩
theorem mo_X9_isOpen : MOk mX9_isOpen 1 := ⟨tb_2 (i := 210) rfl rfl, tb_1 (i := 3) rfl rfl, ⟨by decide, by decide⟩, by decide +kernel⟩
theorem mv_X9_isOpen : MVk mX9_isOpen := ⟨tb_2 (i := 208) rfl rfl, tb_2 (i := 209) rfl rfl⟩
theorem mo_X9_thingsThatAre : MOk mX9_thingsThatAre 1 := ⟨tb_3 (i := 21) rfl rfl, tb_1 (i := 3) rfl rfl, ⟨by decide, by decide⟩, by decide +kernel⟩
theorem mv_X9_thingsThatAre : MVk mX9_thingsThatAre := ⟨tb_3 (i := 19) rfl rfl, tb_3 (i := 20) rfl rfl⟩
theorem mo_X9_leftTo : MOk mX9_leftTo 1 := ⟨tb_4 (i := 60) rfl rfl, tb_1 (i := 3) rfl rfl, ⟨by decide, by decide⟩, by decide +kernel⟩
theorem mv_X9_leftTo : MVk mX9_leftTo := ⟨tb_4 (i := 58) rfl rfl, tb_4 (i := 59) rfl rfl⟩
theorem mo_X9_leastDueOf : MOk mX9_leastDueOf 1 := ⟨tb_4 (i := 64) rfl rfl, tb_1 (i := 3) rfl rfl, ⟨by decide, by decide⟩, by decide +kernel⟩
theorem mv_X9_leastDueOf : MVk mX9_leastDueOf := ⟨tb_4 (i := 62) rfl rfl, tb_4 (i := 63) rfl rfl⟩
theorem mo_X9_clothsWith : MOk mX9_clothsWith 1 := ⟨tb_4 (i := 68) rfl rfl, tb_1 (i := 3) rfl rfl, ⟨by decide, by decide⟩, by decide +kernel⟩
theorem mv_X9_clothsWith : MVk mX9_clothsWith := ⟨tb_4 (i := 66) rfl rfl, tb_4 (i := 67) rfl rfl⟩
theorem mo_X9_knotAt : MOk mX9_knotAt 2 := ⟨tb_3 (i := 69) rfl rfl, tb_1 (i := 3) rfl rfl, ⟨by decide, by decide⟩, by decide +kernel⟩
theorem mv_X9_knotAt : MVk mX9_knotAt := ⟨tb_3 (i := 67) rfl rfl, tb_3 (i := 68) rfl rfl⟩
theorem mo_X9_holderOf : MOk mX9_holderOf 1 := ⟨tb_3 (i := 104) rfl rfl, tb_1 (i := 3) rfl rfl, ⟨by decide, by decide⟩, by decide +kernel⟩
theorem mv_X9_holderOf : MVk mX9_holderOf := ⟨tb_3 (i := 102) rfl rfl, tb_3 (i := 103) rfl rfl⟩
theorem mo_X9_canDo : MOk mX9_canDo 3 := ⟨tb_2 (i := 222) rfl rfl, tb_1 (i := 3) rfl rfl, ⟨by decide, by decide⟩, by decide +kernel⟩
theorem mv_X9_canDo : MVk mX9_canDo := ⟨tb_2 (i := 220) rfl rfl, tb_2 (i := 221) rfl rfl⟩
theorem mo_X9_addKnot : MOk mX9_addKnot 3 := ⟨tb_3 (i := 56) rfl rfl, tb_1 (i := 3) rfl rfl, ⟨by decide, by decide⟩, by decide +kernel⟩
theorem mv_X9_addKnot : MVk mX9_addKnot := ⟨tb_3 (i := 54) rfl rfl, tb_3 (i := 55) rfl rfl⟩
theorem mo_X9_untie : MOk mX9_untie 1 := ⟨tb_3 (i := 83) rfl rfl, tb_1 (i := 3) rfl rfl, ⟨by decide, by decide⟩, by decide +kernel⟩
theorem mv_X9_untie : MVk mX9_untie := ⟨tb_3 (i := 81) rfl rfl, tb_3 (i := 82) rfl rfl⟩
theorem mo_X9_happens : MOk mX9_happens 1 := ⟨tb_3 (i := 73) rfl rfl, tb_1 (i := 3) rfl rfl, ⟨by decide, by decide⟩, by decide +kernel⟩
theorem mv_X9_happens : MVk mX9_happens := ⟨tb_3 (i := 71) rfl rfl, tb_3 (i := 72) rfl rfl⟩
theorem mo_X9_drawThousand : MOk mX9_drawThousand 0 := ⟨tb_3 (i := 77) rfl rfl, tb_1 (i := 3) rfl rfl, ⟨by decide, by decide⟩, by decide +kernel⟩
theorem mv_X9_drawThousand : MVk mX9_drawThousand := ⟨tb_3 (i := 76) rfl rfl, tb_0 (i := 7) rfl rfl⟩
theorem mo_X10_state : MOk mX10_state 1 := ⟨tb_2 (i := 158) rfl rfl, tb_1 (i := 1) rfl rfl, ⟨by decide, by decide⟩, by decide +kernel⟩
theorem mv_X10_state : MVk mX10_state := ⟨tb_2 (i := 156) rfl rfl, tb_2 (i := 157) rfl rfl⟩
theorem mo_X10_person : MOk mX10_person 1 := ⟨tb_2 (i := 162) rfl rfl, tb_1 (i := 1) rfl rfl, ⟨by decide, by decide⟩, by decide +kernel⟩
theorem mv_X10_person : MVk mX10_person := ⟨tb_2 (i := 160) rfl rfl, tb_2 (i := 161) rfl rfl⟩
theorem mo_X10_cloth : MOk mX10_cloth 1 := ⟨tb_2 (i := 177) rfl rfl, tb_1 (i := 1) rfl rfl, ⟨by decide, by decide⟩, by decide +kernel⟩
theorem mv_X10_cloth : MVk mX10_cloth := ⟨tb_2 (i := 175) rfl rfl, tb_2 (i := 176) rfl rfl⟩
theorem mo_X10_thing : MOk mX10_thing 2 := ⟨tb_2 (i := 189) rfl rfl, tb_1 (i := 1) rfl rfl, ⟨by decide, by decide⟩, by decide +kernel⟩
theorem mv_X10_thing : MVk mX10_thing := ⟨tb_2 (i := 187) rfl rfl, tb_2 (i := 188) rfl rfl⟩
theorem mo_X10_set : MOk mX10_set 3 := ⟨tb_2 (i := 197) rfl rfl, tb_1 (i := 1) rfl rfl, ⟨by decide, by decide⟩, by decide +kernel⟩
theorem mv_X10_set : MVk mX10_set := ⟨tb_2 (i := 195) rfl rfl, tb_2 (i := 196) rfl rfl⟩
theorem mo_X10_act : MOk mX10_act 3 := ⟨tb_2 (i := 218) rfl rfl, tb_1 (i := 1) rfl rfl, ⟨by decide, by decide⟩, by decide +kernel⟩
theorem mv_X10_act : MVk mX10_act := ⟨tb_2 (i := 216) rfl rfl, tb_2 (i := 217) rfl rfl⟩
theorem mo_X10_days : MOk mX10_days 1 := ⟨tb_3 (i := 91) rfl rfl, tb_1 (i := 1) rfl rfl, ⟨by decide, by decide⟩, by decide +kernel⟩
theorem mv_X10_days : MVk mX10_days := ⟨tb_3 (i := 89) rfl rfl, tb_3 (i := 90) rfl rfl⟩
theorem mo_X10_feed : MOk mX10_feed 5 := ⟨tb_3 (i := 112) rfl rfl, tb_1 (i := 1) rfl rfl, ⟨by decide, by decide⟩, by decide +kernel⟩
theorem mv_X10_feed : MVk mX10_feed := ⟨tb_3 (i := 110) rfl rfl, tb_3 (i := 111) rfl rfl⟩
theorem mo_X10_end : MOk mX10_end 1 := ⟨tb_3 (i := 120) rfl rfl, tb_1 (i := 1) rfl rfl, ⟨by decide, by decide⟩, by decide +kernel⟩
theorem mv_X10_end : MVk mX10_end := ⟨tb_3 (i := 118) rfl rfl, tb_3 (i := 119) rfl rfl⟩
theorem mo_X10_text : MOk mX10_text 1 := ⟨tb_3 (i := 124) rfl rfl, tb_1 (i := 1) rfl rfl, ⟨by decide, by decide⟩, by decide +kernel⟩
theorem mv_X10_text : MVk mX10_text := ⟨tb_3 (i := 122) rfl rfl, tb_3 (i := 123) rfl rfl⟩
theorem mo_X10_fault : MOk mX10_fault 1 := ⟨tb_4 (i := 51) rfl rfl, tb_1 (i := 1) rfl rfl, ⟨by decide, by decide⟩, by decide +kernel⟩
theorem mv_X10_fault : MVk mX10_fault := ⟨tb_4 (i := 49) rfl rfl, tb_4 (i := 50) rfl rfl⟩
theorem mo_X10_of : MOk mX10_of 2 := ⟨tb_4 (i := 55) rfl rfl, tb_1 (i := 1) rfl rfl, ⟨by decide, by decide⟩, by decide +kernel⟩
theorem mv_X10_of : MVk mX10_of := ⟨tb_4 (i := 53) rfl rfl, tb_4 (i := 54) rfl rfl⟩
theorem mo_X10_clothOf : MOk mX10_clothOf 2 := ⟨tb_4 (i := 73) rfl rfl, tb_1 (i := 1) rfl rfl, ⟨by decide, by decide⟩, by decide +kernel⟩
theorem mv_X10_clothOf : MVk mX10_clothOf := ⟨tb_4 (i := 71) rfl rfl, tb_4 (i := 72) rfl rfl⟩
theorem mo_X10_thingOf : MOk mX10_thingOf 2 := ⟨tb_4 (i := 79) rfl rfl, tb_1 (i := 1) rfl rfl, ⟨by decide, by decide⟩, by decide +kernel⟩
theorem mv_X10_thingOf : MVk mX10_thingOf := ⟨tb_4 (i := 77) rfl rfl, tb_4 (i := 78) rfl rfl⟩
theorem mo_X10_book : MOk mX10_book 2 := ⟨tb_4 (i := 85) rfl rfl, tb_1 (i := 1) rfl rfl, ⟨by decide, by decide⟩, by decide +kernel⟩
theorem mv_X10_book : MVk mX10_book := ⟨tb_4 (i := 83) rfl rfl, tb_4 (i := 84) rfl rfl⟩
theorem mo_X10_goes : MOk mX10_goes 2 := ⟨tb_4 (i := 93) rfl rfl, tb_1 (i := 1) rfl rfl, ⟨by decide, by decide⟩, by decide +kernel⟩
theorem mv_X10_goes : MVk mX10_goes := ⟨tb_4 (i := 91) rfl rfl, tb_4 (i := 92) rfl rfl⟩
theorem mo_X10_fate : MOk mX10_fate 1 := ⟨tb_4 (i := 104) rfl rfl, tb_1 (i := 1) rfl rfl, ⟨by decide, by decide⟩, by decide +kernel⟩
theorem mv_X10_fate : MVk mX10_fate := ⟨tb_4 (i := 102) rfl rfl, tb_4 (i := 103) rfl rfl⟩
theorem mo_X10_crossing : MOk mX10_crossing 1 := ⟨tb_4 (i := 108) rfl rfl, tb_1 (i := 1) rfl rfl, ⟨by decide, by decide⟩, by decide +kernel⟩
theorem mv_X10_crossing : MVk mX10_crossing := ⟨tb_4 (i := 106) rfl rfl, tb_4 (i := 107) rfl rfl⟩
theorem mo_X10_braid : MOk mX10_braid 1 := ⟨tb_4 (i := 120) rfl rfl, tb_1 (i := 1) rfl rfl, ⟨by decide, by decide⟩, by decide +kernel⟩
theorem mv_X10_braid : MVk mX10_braid := ⟨tb_4 (i := 118) rfl rfl, tb_4 (i := 119) rfl rfl⟩
theorem mo_X10_turnings : MOk mX10_turnings 2 := ⟨tb_4 (i := 138) rfl rfl, tb_1 (i := 1) rfl rfl, ⟨by decide, by decide⟩, by decide +kernel⟩
theorem mv_X10_turnings : MVk mX10_turnings := ⟨tb_4 (i := 136) rfl rfl, tb_4 (i := 137) rfl rfl⟩
theorem mo_X10_strip : MOk mX10_strip 3 := ⟨tb_4 (i := 163) rfl rfl, tb_1 (i := 1) rfl rfl, ⟨by decide, by decide⟩, by decide +kernel⟩
theorem mv_X10_strip : MVk mX10_strip := ⟨tb_4 (i := 161) rfl rfl, tb_4 (i := 162) rfl rfl⟩
theorem mo_X10_answer : MOk mX10_answer 1 := ⟨tb_4 (i := 174) rfl rfl, tb_1 (i := 1) rfl rfl, ⟨by decide, by decide⟩, by decide +kernel⟩
theorem mv_X10_answer : MVk mX10_answer := ⟨tb_4 (i := 172) rfl rfl, tb_4 (i := 173) rfl rfl⟩
theorem mo_X10_boxes : MOk mX10_boxes 1 := ⟨tb_4 (i := 178) rfl rfl, tb_1 (i := 1) rfl rfl, ⟨by decide, by decide⟩, by decide +kernel⟩
theorem mv_X10_boxes : MVk mX10_boxes := ⟨tb_4 (i := 176) rfl rfl, tb_4 (i := 177) rfl rfl⟩
theorem mo_X10_piles : MOk mX10_piles 2 := ⟨tb_4 (i := 190) rfl rfl, tb_1 (i := 1) rfl rfl, ⟨by decide, by decide⟩, by decide +kernel⟩
theorem mv_X10_piles : MVk mX10_piles := ⟨tb_4 (i := 188) rfl rfl, tb_4 (i := 189) rfl rfl⟩
theorem mo_X10_dealt : MOk mX10_dealt 1 := ⟨tb_4 (i := 198) rfl rfl, tb_1 (i := 1) rfl rfl, ⟨by decide, by decide⟩, by decide +kernel⟩
theorem mv_X10_dealt : MVk mX10_dealt := ⟨tb_4 (i := 196) rfl rfl, tb_4 (i := 197) rfl rfl⟩
theorem mo_X10_key : MOk mX10_key 1 := ⟨tb_4 (i := 202) rfl rfl, tb_1 (i := 1) rfl rfl, ⟨by decide, by decide⟩, by decide +kernel⟩
theorem mv_X10_key : MVk mX10_key := ⟨tb_4 (i := 200) rfl rfl, tb_4 (i := 201) rfl rfl⟩
theorem mo_X10_table : MOk mX10_table 3 := ⟨tb_4 (i := 206) rfl rfl, tb_1 (i := 1) rfl rfl, ⟨by decide, by decide⟩, by decide +kernel⟩
theorem mv_X10_table : MVk mX10_table := ⟨tb_4 (i := 204) rfl rfl, tb_4 (i := 205) rfl rfl⟩
theorem mo_X10_ask : MOk mX10_ask 1 := ⟨tb_4 (i := 233) rfl rfl, tb_1 (i := 1) rfl rfl, ⟨by decide, by decide⟩, by decide +kernel⟩
theorem mv_X10_ask : MVk mX10_ask := ⟨tb_4 (i := 231) rfl rfl, tb_4 (i := 232) rfl rfl⟩
theorem mo_X10_pages : MOk mX10_pages 2 := ⟨tb_4 (i := 237) rfl rfl, tb_1 (i := 1) rfl rfl, ⟨by decide, by decide⟩, by decide +kernel⟩
theorem mv_X10_pages : MVk mX10_pages := ⟨tb_4 (i := 235) rfl rfl, tb_4 (i := 236) rfl rfl⟩
theorem mo_X10_truth : MOk mX10_truth 2 := ⟨tb_5 (i := 11) rfl rfl, tb_1 (i := 1) rfl rfl, ⟨by decide, by decide⟩, by decide +kernel⟩
theorem mv_X10_truth : MVk mX10_truth := ⟨tb_5 (i := 9) rfl rfl, tb_5 (i := 10) rfl rfl⟩
theorem mo_X10_rounds : MOk mX10_rounds 3 := ⟨tb_5 (i := 31) rfl rfl, tb_1 (i := 1) rfl rfl, ⟨by decide, by decide⟩, by decide +kernel⟩
theorem mv_X10_rounds : MVk mX10_rounds := ⟨tb_5 (i := 29) rfl rfl, tb_5 (i := 30) rfl rfl⟩
theorem mo_X10_meets : MOk mX10_meets 3 := ⟨tb_5 (i := 41) rfl rfl, tb_1 (i := 1) rfl rfl, ⟨by decide, by decide⟩, by decide +kernel⟩
theorem mv_X10_meets : MVk mX10_meets := ⟨tb_5 (i := 39) rfl rfl, tb_5 (i := 40) rfl rfl⟩
theorem mo_X10_rows : MOk mX10_rows 2 := ⟨tb_5 (i := 45) rfl rfl, tb_1 (i := 1) rfl rfl, ⟨by decide, by decide⟩, by decide +kernel⟩
theorem mv_X10_rows : MVk mX10_rows := ⟨tb_5 (i := 43) rfl rfl, tb_5 (i := 44) rfl rfl⟩
theorem mo_X10_digit : MOk mX10_digit 1 := ⟨tb_5 (i := 52) rfl rfl, tb_1 (i := 1) rfl rfl, ⟨by decide, by decide⟩, by decide +kernel⟩
theorem mv_X10_digit : MVk mX10_digit := ⟨tb_5 (i := 50) rfl rfl, tb_5 (i := 51) rfl rfl⟩
theorem mo_X10_spelt : MOk mX10_spelt 2 := ⟨tb_5 (i := 56) rfl rfl, tb_1 (i := 1) rfl rfl, ⟨by decide, by decide⟩, by decide +kernel⟩
theorem mv_X10_spelt : MVk mX10_spelt := ⟨tb_5 (i := 54) rfl rfl, tb_5 (i := 55) rfl rfl⟩
theorem mo_X10_game : MOk mX10_game 2 := ⟨tb_5 (i := 71) rfl rfl, tb_1 (i := 1) rfl rfl, ⟨by decide, by decide⟩, by decide +kernel⟩
theorem mv_X10_game : MVk mX10_game := ⟨tb_5 (i := 69) rfl rfl, tb_5 (i := 70) rfl rfl⟩
theorem mo_X10_undo : MOk mX10_undo 0 := ⟨tb_5 (i := 89) rfl rfl, tb_1 (i := 1) rfl rfl, ⟨by decide, by decide⟩, by decide +kernel⟩
theorem mv_X10_undo : MVk mX10_undo := ⟨tb_5 (i := 87) rfl rfl, tb_5 (i := 88) rfl rfl⟩
theorem mo_X10_image : MOk mX10_image 1 := ⟨tb_5 (i := 93) rfl rfl, tb_1 (i := 1) rfl rfl, ⟨by decide, by decide⟩, by decide +kernel⟩
theorem mv_X10_image : MVk mX10_image := ⟨tb_5 (i := 91) rfl rfl, tb_5 (i := 92) rfl rfl⟩
theorem mo_X10_look : MOk mX10_look 1 := ⟨tb_5 (i := 114) rfl rfl, tb_1 (i := 1) rfl rfl, ⟨by decide, by decide⟩, by decide +kernel⟩
theorem mv_X10_look : MVk mX10_look := ⟨tb_5 (i := 112) rfl rfl, tb_5 (i := 113) rfl rfl⟩
theorem mo_X10_isWithin : MOk mX10_isWithin 3 := ⟨tb_2 (i := 165) rfl rfl, tb_1 (i := 1) rfl rfl, ⟨by decide, by decide⟩, by decide +kernel⟩
theorem ms_X10_isWithin : Cond.static (mY mX10_isWithin) ∈ tb := tb_2 (i := 164) rfl rfl
theorem mo_X10_sum : MOk mX10_sum 2 := ⟨tb_4 (i := 100) rfl rfl, tb_1 (i := 1) rfl rfl, ⟨by decide, by decide⟩, by decide +kernel⟩
theorem ms_X10_sum : Cond.static (mY mX10_sum) ∈ tb := tb_4 (i := 99) rfl rfl
theorem mo_X10_forgetUndosFor : MOk mX10_forgetUndosFor 1 := ⟨tb_2 (i := 173) rfl rfl, tb_1 (i := 1) rfl rfl, ⟨by decide, by decide⟩, by decide +kernel⟩
theorem mv_X10_forgetUndosFor : MVk mX10_forgetUndosFor := ⟨tb_2 (i := 172) rfl rfl, tb_0 (i := 0) rfl rfl⟩
theorem mo_X10_keepForUndo : MOk mX10_keepForUndo 0 := ⟨tb_2 (i := 226) rfl rfl, tb_1 (i := 1) rfl rfl, ⟨by decide, by decide⟩, by decide +kernel⟩
theorem mv_X10_keepForUndo : MVk mX10_keepForUndo := ⟨tb_2 (i := 225) rfl rfl, tb_0 (i := 1) rfl rfl⟩
theorem mo_X10_think : MOk mX10_think 1 := ⟨tb_4 (i := 97) rfl rfl, tb_1 (i := 1) rfl rfl, ⟨by decide, by decide⟩, by decide +kernel⟩
theorem mv_X10_think : MVk mX10_think := ⟨tb_4 (i := 96) rfl rfl, tb_0 (i := 22) rfl rfl⟩
theorem mo_X10_tellLines : MOk mX10_tellLines 1 := ⟨tb_4 (i := 41) rfl rfl, tb_1 (i := 1) rfl rfl, ⟨by decide, by decide⟩, by decide +kernel⟩
theorem mv_X10_tellLines : MVk mX10_tellLines := ⟨tb_4 (i := 40) rfl rfl, tb_0 (i := 21) rfl rfl⟩
theorem mo_X11_isIn : MOk mX11_isIn 3 := ⟨tb_6 (i := 103) rfl rfl, tb_1 (i := 13) rfl rfl, ⟨by decide, by decide⟩, by decide +kernel⟩
theorem mv_X11_isIn : MVk mX11_isIn := ⟨tb_6 (i := 102) rfl rfl, tb_0 (i := 26) rfl rfl⟩
theorem mo_X11_held : MOk mX11_held 3 := ⟨tb_7 (i := 115) rfl rfl, tb_1 (i := 13) rfl rfl, ⟨by decide, by decide⟩, by decide +kernel⟩
theorem mv_X11_held : MVk mX11_held := ⟨tb_7 (i := 114) rfl rfl, tb_0 (i := 81) rfl rfl⟩
theorem mo_X11_lesser : MOk mX11_lesser 2 := ⟨tb_7 (i := 127) rfl rfl, tb_1 (i := 13) rfl rfl, ⟨by decide, by decide⟩, by decide +kernel⟩
theorem mv_X11_lesser : MVk mX11_lesser := ⟨tb_7 (i := 126) rfl rfl, tb_0 (i := 84) rfl rfl⟩
theorem mo_X11_onesOf : MOk mX11_onesOf 1 := ⟨tb_8 (i := 54) rfl rfl, tb_1 (i := 13) rfl rfl, ⟨by decide, by decide⟩, by decide +kernel⟩
theorem mv_X11_onesOf : MVk mX11_onesOf := ⟨tb_8 (i := 53) rfl rfl, tb_0 (i := 106) rfl rfl⟩
theorem mo_X11_has : MOk mX11_has 2 := ⟨tb_7 (i := 91) rfl rfl, tb_1 (i := 13) rfl rfl, ⟨by decide, by decide⟩, by decide +kernel⟩
theorem mv_X11_has : MVk mX11_has := ⟨tb_7 (i := 90) rfl rfl, tb_0 (i := 75) rfl rfl⟩
theorem mo_X11_keepsAhead : MOk mX11_keepsAhead 0 := ⟨tb_7 (i := 71) rfl rfl, tb_1 (i := 13) rfl rfl, ⟨by decide, by decide⟩, by decide +kernel⟩
theorem mv_X11_keepsAhead : MVk mX11_keepsAhead := ⟨tb_7 (i := 70) rfl rfl, tb_0 (i := 70) rfl rfl⟩
theorem mo_X11_undo : MOk mX11_undo 0 := ⟨tb_6 (i := 91) rfl rfl, tb_1 (i := 13) rfl rfl, ⟨by decide, by decide⟩, by decide +kernel⟩
theorem mv_X11_undo : MVk mX11_undo := ⟨tb_6 (i := 89) rfl rfl, tb_6 (i := 90) rfl rfl⟩
theorem mo_X11_thinks : MOk mX11_thinks 0 := ⟨tb_7 (i := 198) rfl rfl, tb_1 (i := 13) rfl rfl, ⟨by decide, by decide⟩, by decide +kernel⟩
theorem mv_X11_thinks : MVk mX11_thinks := ⟨tb_7 (i := 197) rfl rfl, tb_0 (i := 95) rfl rfl⟩
theorem mo_X11_endsThought : MOk mX11_endsThought 0 := ⟨tb_7 (i := 210) rfl rfl, tb_1 (i := 13) rfl rfl, ⟨by decide, by decide⟩, by decide +kernel⟩
theorem mv_X11_endsThought : MVk mX11_endsThought := ⟨tb_7 (i := 209) rfl rfl, tb_0 (i := 98) rfl rfl⟩
theorem mo_X11_state : MOk mX11_state 1 := ⟨tb_6 (i := 95) rfl rfl, tb_1 (i := 13) rfl rfl, ⟨by decide, by decide⟩, by decide +kernel⟩
theorem mv_X11_state : MVk mX11_state := ⟨tb_6 (i := 93) rfl rfl, tb_6 (i := 94) rfl rfl⟩
theorem mo_X11_draw : MOk mX11_draw 1 := ⟨tb_7 (i := 139) rfl rfl, tb_1 (i := 13) rfl rfl, ⟨by decide, by decide⟩, by decide +kernel⟩
theorem mv_X11_draw : MVk mX11_draw := ⟨tb_7 (i := 138) rfl rfl, tb_0 (i := 87) rfl rfl⟩
theorem mo_X11_isPerson : MOk mX11_isPerson 1 := ⟨tb_6 (i := 111) rfl rfl, tb_1 (i := 13) rfl rfl, ⟨by decide, by decide⟩, by decide +kernel⟩
theorem mv_X11_isPerson : MVk mX11_isPerson := ⟨tb_6 (i := 110) rfl rfl, tb_0 (i := 27) rfl rfl⟩
theorem mo_X11_isCloth : MOk mX11_isCloth 1 := ⟨tb_6 (i := 127) rfl rfl, tb_1 (i := 13) rfl rfl, ⟨by decide, by decide⟩, by decide +kernel⟩
theorem mv_X11_isCloth : MVk mX11_isCloth := ⟨tb_6 (i := 126) rfl rfl, tb_0 (i := 29) rfl rfl⟩
theorem mo_X11_isThing : MOk mX11_isThing 1 := ⟨tb_6 (i := 131) rfl rfl, tb_1 (i := 13) rfl rfl, ⟨by decide, by decide⟩, by decide +kernel⟩
theorem mv_X11_isThing : MVk mX11_isThing := ⟨tb_6 (i := 130) rfl rfl, tb_0 (i := 30) rfl rfl⟩
theorem mo_X11_isOpen : MOk mX11_isOpen 1 := ⟨tb_6 (i := 135) rfl rfl, tb_1 (i := 13) rfl rfl, ⟨by decide, by decide⟩, by decide +kernel⟩
theorem mv_X11_isOpen : MVk mX11_isOpen := ⟨tb_6 (i := 134) rfl rfl, tb_0 (i := 31) rfl rfl⟩
theorem mo_X11_inCloth : MOk mX11_inCloth 1 := ⟨tb_6 (i := 139) rfl rfl, tb_1 (i := 13) rfl rfl, ⟨by decide, by decide⟩, by decide +kernel⟩
theorem mv_X11_inCloth : MVk mX11_inCloth := ⟨tb_6 (i := 138) rfl rfl, tb_0 (i := 32) rfl rfl⟩
theorem mo_X11_knotOf : MOk mX11_knotOf 2 := ⟨tb_7 (i := 67) rfl rfl, tb_1 (i := 13) rfl rfl, ⟨by decide, by decide⟩, by decide +kernel⟩
theorem mv_X11_knotOf : MVk mX11_knotOf := ⟨tb_7 (i := 66) rfl rfl, tb_0 (i := 69) rfl rfl⟩
theorem mo_X11_knotsOf : MOk mX11_knotsOf 1 := ⟨tb_7 (i := 63) rfl rfl, tb_1 (i := 13) rfl rfl, ⟨by decide, by decide⟩, by decide +kernel⟩
theorem mv_X11_knotsOf : MVk mX11_knotsOf := ⟨tb_7 (i := 62) rfl rfl, tb_0 (i := 68) rfl rfl⟩
theorem mo_X11_person : MOk mX11_person 1 := ⟨tb_6 (i := 99) rfl rfl, tb_1 (i := 13) rfl rfl, ⟨by decide, by decide⟩, by decide +kernel⟩
theorem mv_X11_person : MVk mX11_person := ⟨tb_6 (i := 97) rfl rfl, tb_6 (i := 98) rfl rfl⟩
theorem mo_X11_cloth : MOk mX11_cloth 1 := ⟨tb_6 (i := 107) rfl rfl, tb_1 (i := 13) rfl rfl, ⟨by decide, by decide⟩, by decide +kernel⟩
theorem mv_X11_cloth : MVk mX11_cloth := ⟨tb_6 (i := 105) rfl rfl, tb_6 (i := 106) rfl rfl⟩
theorem mo_X11_thing : MOk mX11_thing 2 := ⟨tb_6 (i := 115) rfl rfl, tb_1 (i := 13) rfl rfl, ⟨by decide, by decide⟩, by decide +kernel⟩
theorem mv_X11_thing : MVk mX11_thing := ⟨tb_6 (i := 113) rfl rfl, tb_6 (i := 114) rfl rfl⟩
theorem mo_X11_canSet : MOk mX11_canSet 3 := ⟨tb_6 (i := 123) rfl rfl, tb_1 (i := 13) rfl rfl, ⟨by decide, by decide⟩, by decide +kernel⟩
theorem mv_X11_canSet : MVk mX11_canSet := ⟨tb_6 (i := 122) rfl rfl, tb_0 (i := 28) rfl rfl⟩
theorem mo_X11_set : MOk mX11_set 3 := ⟨tb_6 (i := 119) rfl rfl, tb_1 (i := 13) rfl rfl, ⟨by decide, by decide⟩, by decide +kernel⟩
theorem mv_X11_set : MVk mX11_set := ⟨tb_6 (i := 117) rfl rfl, tb_6 (i := 118) rfl rfl⟩
theorem mo_X11_types : MOk mX11_types 1 := ⟨tb_6 (i := 147) rfl rfl, tb_1 (i := 13) rfl rfl, ⟨by decide, by decide⟩, by decide +kernel⟩
theorem mv_X11_types : MVk mX11_types := ⟨tb_6 (i := 146) rfl rfl, tb_0 (i := 33) rfl rfl⟩
theorem mo_X11_feed : MOk mX11_feed 5 := ⟨tb_6 (i := 143) rfl rfl, tb_1 (i := 13) rfl rfl, ⟨by decide, by decide⟩, by decide +kernel⟩
theorem mv_X11_feed : MVk mX11_feed := ⟨tb_6 (i := 141) rfl rfl, tb_6 (i := 142) rfl rfl⟩
theorem mo_X11_end : MOk mX11_end 1 := ⟨tb_6 (i := 151) rfl rfl, tb_1 (i := 13) rfl rfl, ⟨by decide, by decide⟩, by decide +kernel⟩
theorem mv_X11_end : MVk mX11_end := ⟨tb_6 (i := 149) rfl rfl, tb_6 (i := 150) rfl rfl⟩
theorem mo_X11_raw : MOk mX11_raw 1 := ⟨tb_6 (i := 167) rfl rfl, tb_1 (i := 13) rfl rfl, ⟨by decide, by decide⟩, by decide +kernel⟩
theorem mv_X11_raw : MVk mX11_raw := ⟨tb_6 (i := 166) rfl rfl, tb_0 (i := 36) rfl rfl⟩
theorem mo_X11_isLetter : MOk mX11_isLetter 1 := ⟨tb_6 (i := 171) rfl rfl, tb_1 (i := 13) rfl rfl, ⟨by decide, by decide⟩, by decide +kernel⟩
theorem mv_X11_isLetter : MVk mX11_isLetter := ⟨tb_6 (i := 170) rfl rfl, tb_0 (i := 37) rfl rfl⟩
theorem mo_X11_isDigit : MOk mX11_isDigit 1 := ⟨tb_6 (i := 179) rfl rfl, tb_1 (i := 13) rfl rfl, ⟨by decide, by decide⟩, by decide +kernel⟩
theorem mv_X11_isDigit : MVk mX11_isDigit := ⟨tb_6 (i := 178) rfl rfl, tb_0 (i := 39) rfl rfl⟩
theorem mo_X11_isMarkSign : MOk mX11_isMarkSign 1 := ⟨tb_6 (i := 183) rfl rfl, tb_1 (i := 13) rfl rfl, ⟨by decide, by decide⟩, by decide +kernel⟩
theorem mv_X11_isMarkSign : MVk mX11_isMarkSign := ⟨tb_6 (i := 182) rfl rfl, tb_0 (i := 40) rfl rfl⟩
theorem mo_X11_wordAt : MOk mX11_wordAt 2 := ⟨tb_6 (i := 175) rfl rfl, tb_1 (i := 13) rfl rfl, ⟨by decide, by decide⟩, by decide +kernel⟩
theorem mv_X11_wordAt : MVk mX11_wordAt := ⟨tb_6 (i := 174) rfl rfl, tb_0 (i := 38) rfl rfl⟩
theorem mo_X11_reads : MOk mX11_reads 0 := ⟨tb_6 (i := 163) rfl rfl, tb_1 (i := 13) rfl rfl, ⟨by decide, by decide⟩, by decide +kernel⟩
theorem mv_X11_reads : MVk mX11_reads := ⟨tb_6 (i := 162) rfl rfl, tb_0 (i := 35) rfl rfl⟩
theorem mo_X11_errs : MOk mX11_errs 1 := ⟨tb_6 (i := 195) rfl rfl, tb_1 (i := 13) rfl rfl, ⟨by decide, by decide⟩, by decide +kernel⟩
theorem mv_X11_errs : MVk mX11_errs := ⟨tb_6 (i := 194) rfl rfl, tb_0 (i := 43) rfl rfl⟩
theorem mo_X11_isWord : MOk mX11_isWord 1 := ⟨tb_6 (i := 191) rfl rfl, tb_1 (i := 13) rfl rfl, ⟨by decide, by decide⟩, by decide +kernel⟩
theorem mv_X11_isWord : MVk mX11_isWord := ⟨tb_6 (i := 190) rfl rfl, tb_0 (i := 42) rfl rfl⟩
theorem mo_X11_isSign : MOk mX11_isSign 1 := ⟨tb_6 (i := 215) rfl rfl, tb_1 (i := 13) rfl rfl, ⟨by decide, by decide⟩, by decide +kernel⟩
theorem mv_X11_isSign : MVk mX11_isSign := ⟨tb_6 (i := 214) rfl rfl, tb_0 (i := 48) rfl rfl⟩
theorem mo_X11_emits : MOk mX11_emits 2 := ⟨tb_7 (i := 19) rfl rfl, tb_1 (i := 13) rfl rfl, ⟨by decide, by decide⟩, by decide +kernel⟩
theorem mv_X11_emits : MVk mX11_emits := ⟨tb_7 (i := 18) rfl rfl, tb_0 (i := 59) rfl rfl⟩
theorem mo_X11_canAsk : MOk mX11_canAsk 1 := ⟨tb_7 (i := 15) rfl rfl, tb_1 (i := 13) rfl rfl, ⟨by decide, by decide⟩, by decide +kernel⟩
theorem mv_X11_canAsk : MVk mX11_canAsk := ⟨tb_7 (i := 14) rfl rfl, tb_0 (i := 58) rfl rfl⟩
theorem mo_X11_readUnit : MOk mX11_readUnit 0 := ⟨tb_7 (i := 11) rfl rfl, tb_1 (i := 13) rfl rfl, ⟨by decide, by decide⟩, by decide +kernel⟩
theorem mv_X11_readUnit : MVk mX11_readUnit := ⟨tb_7 (i := 10) rfl rfl, tb_0 (i := 57) rfl rfl⟩
theorem mo_X11_readProduct : MOk mX11_readProduct 0 := ⟨tb_7 (i := 7) rfl rfl, tb_1 (i := 13) rfl rfl, ⟨by decide, by decide⟩, by decide +kernel⟩
theorem mv_X11_readProduct : MVk mX11_readProduct := ⟨tb_7 (i := 6) rfl rfl, tb_0 (i := 56) rfl rfl⟩
theorem mo_X11_readSum : MOk mX11_readSum 0 := ⟨tb_7 (i := 3) rfl rfl, tb_1 (i := 13) rfl rfl, ⟨by decide, by decide⟩, by decide +kernel⟩
theorem mv_X11_readSum : MVk mX11_readSum := ⟨tb_7 (i := 2) rfl rfl, tb_0 (i := 55) rfl rfl⟩
theorem mo_X11_readCompared : MOk mX11_readCompared 0 := ⟨tb_7 (i := 31) rfl rfl, tb_1 (i := 13) rfl rfl, ⟨by decide, by decide⟩, by decide +kernel⟩
theorem mv_X11_readCompared : MVk mX11_readCompared := ⟨tb_7 (i := 30) rfl rfl, tb_0 (i := 62) rfl rfl⟩
theorem mo_X11_waits : MOk mX11_waits 1 := ⟨tb_7 (i := 27) rfl rfl, tb_1 (i := 13) rfl rfl, ⟨by decide, by decide⟩, by decide +kernel⟩
theorem mv_X11_waits : MVk mX11_waits := ⟨tb_7 (i := 26) rfl rfl, tb_0 (i := 61) rfl rfl⟩
theorem mo_X11_settles : MOk mX11_settles 1 := ⟨tb_7 (i := 35) rfl rfl, tb_1 (i := 13) rfl rfl, ⟨by decide, by decide⟩, by decide +kernel⟩
theorem mv_X11_settles : MVk mX11_settles := ⟨tb_7 (i := 34) rfl rfl, tb_0 (i := 63) rfl rfl⟩
theorem mo_X11_readAny : MOk mX11_readAny 0 := ⟨tb_7 (i := 23) rfl rfl, tb_1 (i := 13) rfl rfl, ⟨by decide, by decide⟩, by decide +kernel⟩
theorem mv_X11_readAny : MVk mX11_readAny := ⟨tb_7 (i := 22) rfl rfl, tb_0 (i := 60) rfl rfl⟩
theorem mo_X11_isLineWord : MOk mX11_isLineWord 0 := ⟨tb_6 (i := 239) rfl rfl, tb_1 (i := 13) rfl rfl, ⟨by decide, by decide⟩, by decide +kernel⟩
theorem mv_X11_isLineWord : MVk mX11_isLineWord := ⟨tb_6 (i := 238) rfl rfl, tb_0 (i := 54) rfl rfl⟩
theorem mo_X11_readLaw : MOk mX11_readLaw 0 := ⟨tb_6 (i := 235) rfl rfl, tb_1 (i := 13) rfl rfl, ⟨by decide, by decide⟩, by decide +kernel⟩
theorem mv_X11_readLaw : MVk mX11_readLaw := ⟨tb_6 (i := 234) rfl rfl, tb_0 (i := 53) rfl rfl⟩
theorem mo_X11_takesLaw : MOk mX11_takesLaw 1 := ⟨tb_7 (i := 39) rfl rfl, tb_1 (i := 13) rfl rfl, ⟨by decide, by decide⟩, by decide +kernel⟩
theorem mv_X11_takesLaw : MVk mX11_takesLaw := ⟨tb_7 (i := 38) rfl rfl, tb_0 (i := 64) rfl rfl⟩
theorem mo_X11_readNumber : MOk mX11_readNumber 2 := ⟨tb_6 (i := 207) rfl rfl, tb_1 (i := 13) rfl rfl, ⟨by decide, by decide⟩, by decide +kernel⟩
theorem mv_X11_readNumber : MVk mX11_readNumber := ⟨tb_6 (i := 206) rfl rfl, tb_0 (i := 46) rfl rfl⟩
theorem mo_X11_readMark : MOk mX11_readMark 1 := ⟨tb_6 (i := 211) rfl rfl, tb_1 (i := 13) rfl rfl, ⟨by decide, by decide⟩, by decide +kernel⟩
theorem mv_X11_readMark : MVk mX11_readMark := ⟨tb_6 (i := 210) rfl rfl, tb_0 (i := 47) rfl rfl⟩
theorem mo_X11_readTold : MOk mX11_readTold 3 := ⟨tb_6 (i := 203) rfl rfl, tb_1 (i := 13) rfl rfl, ⟨by decide, by decide⟩, by decide +kernel⟩
theorem mv_X11_readTold : MVk mX11_readTold := ⟨tb_6 (i := 202) rfl rfl, tb_0 (i := 45) rfl rfl⟩
theorem mo_X11_readDeed : MOk mX11_readDeed 1 := ⟨tb_6 (i := 199) rfl rfl, tb_1 (i := 13) rfl rfl, ⟨by decide, by decide⟩, by decide +kernel⟩
theorem mv_X11_readDeed : MVk mX11_readDeed := ⟨tb_6 (i := 198) rfl rfl, tb_0 (i := 44) rfl rfl⟩
theorem mo_X11_readDeeds : MOk mX11_readDeeds 0 := ⟨tb_6 (i := 187) rfl rfl, tb_1 (i := 13) rfl rfl, ⟨by decide, by decide⟩, by decide +kernel⟩
theorem mv_X11_readDeeds : MVk mX11_readDeeds := ⟨tb_6 (i := 186) rfl rfl, tb_0 (i := 41) rfl rfl⟩
theorem mo_X11_readMind : MOk mX11_readMind 1 := ⟨tb_6 (i := 223) rfl rfl, tb_1 (i := 13) rfl rfl, ⟨by decide, by decide⟩, by decide +kernel⟩
theorem mv_X11_readMind : MVk mX11_readMind := ⟨tb_6 (i := 222) rfl rfl, tb_0 (i := 50) rfl rfl⟩
theorem mo_X11_readMinds : MOk mX11_readMinds 0 := ⟨tb_6 (i := 219) rfl rfl, tb_1 (i := 13) rfl rfl, ⟨by decide, by decide⟩, by decide +kernel⟩
theorem mv_X11_readMinds : MVk mX11_readMinds := ⟨tb_6 (i := 218) rfl rfl, tb_0 (i := 49) rfl rfl⟩
theorem mo_X11_readFriend : MOk mX11_readFriend 0 := ⟨tb_6 (i := 231) rfl rfl, tb_1 (i := 13) rfl rfl, ⟨by decide, by decide⟩, by decide +kernel⟩
theorem mv_X11_readFriend : MVk mX11_readFriend := ⟨tb_6 (i := 230) rfl rfl, tb_0 (i := 52) rfl rfl⟩
theorem mo_X11_readFriends : MOk mX11_readFriends 0 := ⟨tb_6 (i := 227) rfl rfl, tb_1 (i := 13) rfl rfl, ⟨by decide, by decide⟩, by decide +kernel⟩
theorem mv_X11_readFriends : MVk mX11_readFriends := ⟨tb_6 (i := 226) rfl rfl, tb_0 (i := 51) rfl rfl⟩
theorem mo_X11_readsText : MOk mX11_readsText 1 := ⟨tb_6 (i := 159) rfl rfl, tb_1 (i := 13) rfl rfl, ⟨by decide, by decide⟩, by decide +kernel⟩
theorem mv_X11_readsText : MVk mX11_readsText := ⟨tb_6 (i := 158) rfl rfl, tb_0 (i := 34) rfl rfl⟩
theorem mo_X11_takesOther : MOk mX11_takesOther 2 := ⟨tb_7 (i := 43) rfl rfl, tb_1 (i := 13) rfl rfl, ⟨by decide, by decide⟩, by decide +kernel⟩
theorem mv_X11_takesOther : MVk mX11_takesOther := ⟨tb_7 (i := 42) rfl rfl, tb_0 (i := 65) rfl rfl⟩
theorem mo_X11_text : MOk mX11_text 1 := ⟨tb_6 (i := 155) rfl rfl, tb_1 (i := 13) rfl rfl, ⟨by decide, by decide⟩, by decide +kernel⟩
theorem mv_X11_text : MVk mX11_text := ⟨tb_6 (i := 153) rfl rfl, tb_6 (i := 154) rfl rfl⟩
theorem mo_X11_fault : MOk mX11_fault 1 := ⟨tb_7 (i := 47) rfl rfl, tb_1 (i := 13) rfl rfl, ⟨by decide, by decide⟩, by decide +kernel⟩
theorem mv_X11_fault : MVk mX11_fault := ⟨tb_7 (i := 45) rfl rfl, tb_7 (i := 46) rfl rfl⟩
theorem mo_X11_twoOf : MOk mX11_twoOf 3 := ⟨tb_7 (i := 111) rfl rfl, tb_1 (i := 13) rfl rfl, ⟨by decide, by decide⟩, by decide +kernel⟩
theorem mv_X11_twoOf : MVk mX11_twoOf := ⟨tb_7 (i := 110) rfl rfl, tb_0 (i := 80) rfl rfl⟩
theorem mo_X11_runs : MOk mX11_runs 3 := ⟨tb_7 (i := 107) rfl rfl, tb_1 (i := 13) rfl rfl, ⟨by decide, by decide⟩, by decide +kernel⟩
theorem mv_X11_runs : MVk mX11_runs := ⟨tb_7 (i := 106) rfl rfl, tb_0 (i := 79) rfl rfl⟩
theorem mo_X11_lineOf : MOk mX11_lineOf 1 := ⟨tb_7 (i := 103) rfl rfl, tb_1 (i := 13) rfl rfl, ⟨by decide, by decide⟩, by decide +kernel⟩
theorem mv_X11_lineOf : MVk mX11_lineOf := ⟨tb_7 (i := 102) rfl rfl, tb_0 (i := 78) rfl rfl⟩
theorem mo_X11_openMany : MOk mX11_openMany 0 := ⟨tb_7 (i := 95) rfl rfl, tb_1 (i := 13) rfl rfl, ⟨by decide, by decide⟩, by decide +kernel⟩
theorem mv_X11_openMany : MVk mX11_openMany := ⟨tb_7 (i := 94) rfl rfl, tb_0 (i := 76) rfl rfl⟩
theorem mo_X11_asks : MOk mX11_asks 2 := ⟨tb_7 (i := 87) rfl rfl, tb_1 (i := 13) rfl rfl, ⟨by decide, by decide⟩, by decide +kernel⟩
theorem mv_X11_asks : MVk mX11_asks := ⟨tb_7 (i := 86) rfl rfl, tb_0 (i := 74) rfl rfl⟩
theorem mo_X11_lawTells : MOk mX11_lawTells 4 := ⟨tb_7 (i := 99) rfl rfl, tb_1 (i := 13) rfl rfl, ⟨by decide, by decide⟩, by decide +kernel⟩
theorem mv_X11_lawTells : MVk mX11_lawTells := ⟨tb_7 (i := 98) rfl rfl, tb_0 (i := 77) rfl rfl⟩
theorem mo_X11_tiesOf : MOk mX11_tiesOf 2 := ⟨tb_7 (i := 83) rfl rfl, tb_1 (i := 13) rfl rfl, ⟨by decide, by decide⟩, by decide +kernel⟩
theorem mv_X11_tiesOf : MVk mX11_tiesOf := ⟨tb_7 (i := 82) rfl rfl, tb_0 (i := 73) rfl rfl⟩
theorem mo_X11_slipsOf : MOk mX11_slipsOf 1 := ⟨tb_7 (i := 131) rfl rfl, tb_1 (i := 13) rfl rfl, ⟨by decide, by decide⟩, by decide +kernel⟩
theorem mv_X11_slipsOf : MVk mX11_slipsOf := ⟨tb_7 (i := 130) rfl rfl, tb_0 (i := 85) rfl rfl⟩
theorem mo_X11_tellsOf : MOk mX11_tellsOf 1 := ⟨tb_7 (i := 165) rfl rfl, tb_1 (i := 13) rfl rfl, ⟨by decide, by decide⟩, by decide +kernel⟩
theorem mv_X11_tellsOf : MVk mX11_tellsOf := ⟨tb_7 (i := 164) rfl rfl, tb_0 (i := 92) rfl rfl⟩
theorem mo_X11_notes : MOk mX11_notes 3 := ⟨tb_7 (i := 119) rfl rfl, tb_1 (i := 13) rfl rfl, ⟨by decide, by decide⟩, by decide +kernel⟩
theorem mv_X11_notes : MVk mX11_notes := ⟨tb_7 (i := 118) rfl rfl, tb_0 (i := 82) rfl rfl⟩
theorem mo_X11_canTie : MOk mX11_canTie 2 := ⟨tb_7 (i := 59) rfl rfl, tb_1 (i := 13) rfl rfl, ⟨by decide, by decide⟩, by decide +kernel⟩
theorem mv_X11_canTie : MVk mX11_canTie := ⟨tb_7 (i := 58) rfl rfl, tb_0 (i := 67) rfl rfl⟩
theorem mo_X11_isTied : MOk mX11_isTied 2 := ⟨tb_7 (i := 79) rfl rfl, tb_1 (i := 13) rfl rfl, ⟨by decide, by decide⟩, by decide +kernel⟩
theorem mv_X11_isTied : MVk mX11_isTied := ⟨tb_7 (i := 78) rfl rfl, tb_0 (i := 72) rfl rfl⟩
theorem mo_X11_comesOut : MOk mX11_comesOut 1 := ⟨tb_7 (i := 145) rfl rfl, tb_1 (i := 13) rfl rfl, ⟨by decide, by decide⟩, by decide +kernel⟩
theorem mv_X11_comesOut : MVk mX11_comesOut := ⟨tb_7 (i := 144) rfl rfl, tb_0 (i := 88) rfl rfl⟩
theorem mo_X11_happens : MOk mX11_happens 1 := ⟨tb_7 (i := 135) rfl rfl, tb_1 (i := 13) rfl rfl, ⟨by decide, by decide⟩, by decide +kernel⟩
theorem mv_X11_happens : MVk mX11_happens := ⟨tb_7 (i := 134) rfl rfl, tb_0 (i := 86) rfl rfl⟩
theorem mo_X11_isWashed : MOk mX11_isWashed 1 := ⟨tb_7 (i := 123) rfl rfl, tb_1 (i := 13) rfl rfl, ⟨by decide, by decide⟩, by decide +kernel⟩
theorem mv_X11_isWashed : MVk mX11_isWashed := ⟨tb_7 (i := 122) rfl rfl, tb_0 (i := 83) rfl rfl⟩
theorem mo_X11_isPulled : MOk mX11_isPulled 1 := ⟨tb_7 (i := 149) rfl rfl, tb_1 (i := 13) rfl rfl, ⟨by decide, by decide⟩, by decide +kernel⟩
theorem mv_X11_isPulled : MVk mX11_isPulled := ⟨tb_7 (i := 148) rfl rfl, tb_0 (i := 89) rfl rfl⟩
theorem mo_X11_canAct : MOk mX11_canAct 3 := ⟨tb_7 (i := 55) rfl rfl, tb_1 (i := 13) rfl rfl, ⟨by decide, by decide⟩, by decide +kernel⟩
theorem mv_X11_canAct : MVk mX11_canAct := ⟨tb_7 (i := 54) rfl rfl, tb_0 (i := 66) rfl rfl⟩
theorem mo_X11_does : MOk mX11_does 3 := ⟨tb_7 (i := 75) rfl rfl, tb_1 (i := 13) rfl rfl, ⟨by decide, by decide⟩, by decide +kernel⟩
theorem mv_X11_does : MVk mX11_does := ⟨tb_7 (i := 74) rfl rfl, tb_0 (i := 71) rfl rfl⟩
theorem mo_X11_act : MOk mX11_act 3 := ⟨tb_7 (i := 51) rfl rfl, tb_1 (i := 13) rfl rfl, ⟨by decide, by decide⟩, by decide +kernel⟩
theorem mv_X11_act : MVk mX11_act := ⟨tb_7 (i := 49) rfl rfl, tb_7 (i := 50) rfl rfl⟩
theorem mo_X11_comesDue : MOk mX11_comesDue 1 := ⟨tb_7 (i := 161) rfl rfl, tb_1 (i := 13) rfl rfl, ⟨by decide, by decide⟩, by decide +kernel⟩
theorem mv_X11_comesDue : MVk mX11_comesDue := ⟨tb_7 (i := 160) rfl rfl, tb_0 (i := 91) rfl rfl⟩
theorem mo_X11_goesBy : MOk mX11_goesBy 0 := ⟨tb_7 (i := 157) rfl rfl, tb_1 (i := 13) rfl rfl, ⟨by decide, by decide⟩, by decide +kernel⟩
theorem mv_X11_goesBy : MVk mX11_goesBy := ⟨tb_7 (i := 156) rfl rfl, tb_0 (i := 90) rfl rfl⟩
theorem mo_X11_days : MOk mX11_days 1 := ⟨tb_7 (i := 153) rfl rfl, tb_1 (i := 13) rfl rfl, ⟨by decide, by decide⟩, by decide +kernel⟩
theorem mv_X11_days : MVk mX11_days := ⟨tb_7 (i := 151) rfl rfl, tb_7 (i := 152) rfl rfl⟩
theorem mo_X11_leftTo : MOk mX11_leftTo 1 := ⟨tb_7 (i := 173) rfl rfl, tb_1 (i := 13) rfl rfl, ⟨by decide, by decide⟩, by decide +kernel⟩
theorem mv_X11_leftTo : MVk mX11_leftTo := ⟨tb_7 (i := 172) rfl rfl, tb_0 (i := 93) rfl rfl⟩
theorem mo_X11_leastDue : MOk mX11_leastDue 1 := ⟨tb_7 (i := 177) rfl rfl, tb_1 (i := 13) rfl rfl, ⟨by decide, by decide⟩, by decide +kernel⟩
theorem mv_X11_leastDue : MVk mX11_leastDue := ⟨tb_7 (i := 176) rfl rfl, tb_0 (i := 94) rfl rfl⟩
theorem mo_X11_of : MOk mX11_of 2 := ⟨tb_7 (i := 169) rfl rfl, tb_1 (i := 13) rfl rfl, ⟨by decide, by decide⟩, by decide +kernel⟩
theorem mv_X11_of : MVk mX11_of := ⟨tb_7 (i := 167) rfl rfl, tb_7 (i := 168) rfl rfl⟩
theorem mo_X11_clothOf : MOk mX11_clothOf 2 := ⟨tb_7 (i := 182) rfl rfl, tb_1 (i := 13) rfl rfl, ⟨by decide, by decide⟩, by decide +kernel⟩
theorem mv_X11_clothOf : MVk mX11_clothOf := ⟨tb_7 (i := 180) rfl rfl, tb_7 (i := 181) rfl rfl⟩
theorem mo_X11_thingOf : MOk mX11_thingOf 2 := ⟨tb_7 (i := 186) rfl rfl, tb_1 (i := 13) rfl rfl, ⟨by decide, by decide⟩, by decide +kernel⟩
theorem mv_X11_thingOf : MVk mX11_thingOf := ⟨tb_7 (i := 184) rfl rfl, tb_7 (i := 185) rfl rfl⟩
theorem mo_X11_book : MOk mX11_book 2 := ⟨tb_7 (i := 190) rfl rfl, tb_1 (i := 13) rfl rfl, ⟨by decide, by decide⟩, by decide +kernel⟩
theorem mv_X11_book : MVk mX11_book := ⟨tb_7 (i := 188) rfl rfl, tb_7 (i := 189) rfl rfl⟩
theorem mo_X11_sumOf : MOk mX11_sumOf 2 := ⟨tb_7 (i := 202) rfl rfl, tb_1 (i := 13) rfl rfl, ⟨by decide, by decide⟩, by decide +kernel⟩
theorem mv_X11_sumOf : MVk mX11_sumOf := ⟨tb_7 (i := 201) rfl rfl, tb_0 (i := 96) rfl rfl⟩
theorem mo_X11_allKnots : MOk mX11_allKnots 0 := ⟨tb_7 (i := 206) rfl rfl, tb_1 (i := 13) rfl rfl, ⟨by decide, by decide⟩, by decide +kernel⟩
theorem mv_X11_allKnots : MVk mX11_allKnots := ⟨tb_7 (i := 205) rfl rfl, tb_0 (i := 97) rfl rfl⟩
theorem mo_X11_goes : MOk mX11_goes 2 := ⟨tb_7 (i := 194) rfl rfl, tb_1 (i := 13) rfl rfl, ⟨by decide, by decide⟩, by decide +kernel⟩
theorem mv_X11_goes : MVk mX11_goes := ⟨tb_7 (i := 192) rfl rfl, tb_7 (i := 193) rfl rfl⟩
theorem mo_X11_fate : MOk mX11_fate 1 := ⟨tb_7 (i := 214) rfl rfl, tb_1 (i := 13) rfl rfl, ⟨by decide, by decide⟩, by decide +kernel⟩
theorem mv_X11_fate : MVk mX11_fate := ⟨tb_7 (i := 212) rfl rfl, tb_7 (i := 213) rfl rfl⟩
theorem mo_X11_crossing : MOk mX11_crossing 1 := ⟨tb_7 (i := 218) rfl rfl, tb_1 (i := 13) rfl rfl, ⟨by decide, by decide⟩, by decide +kernel⟩
theorem mv_X11_crossing : MVk mX11_crossing := ⟨tb_7 (i := 216) rfl rfl, tb_7 (i := 217) rfl rfl⟩
theorem mo_X11_braid : MOk mX11_braid 1 := ⟨tb_7 (i := 222) rfl rfl, tb_1 (i := 13) rfl rfl, ⟨by decide, by decide⟩, by decide +kernel⟩
theorem mv_X11_braid : MVk mX11_braid := ⟨tb_7 (i := 220) rfl rfl, tb_7 (i := 221) rfl rfl⟩
theorem mo_X11_takesOrder : MOk mX11_takesOrder 1 := ⟨tb_7 (i := 230) rfl rfl, tb_1 (i := 13) rfl rfl, ⟨by decide, by decide⟩, by decide +kernel⟩
theorem mv_X11_takesOrder : MVk mX11_takesOrder := ⟨tb_7 (i := 229) rfl rfl, tb_0 (i := 99) rfl rfl⟩
theorem mo_X11_numberOfOrder : MOk mX11_numberOfOrder 0 := ⟨tb_7 (i := 238) rfl rfl, tb_1 (i := 13) rfl rfl, ⟨by decide, by decide⟩, by decide +kernel⟩
theorem mv_X11_numberOfOrder : MVk mX11_numberOfOrder := ⟨tb_7 (i := 237) rfl rfl, tb_0 (i := 101) rfl rfl⟩
theorem mo_X11_takesNumber : MOk mX11_takesNumber 1 := ⟨tb_8 (i := 2) rfl rfl, tb_1 (i := 13) rfl rfl, ⟨by decide, by decide⟩, by decide +kernel⟩
theorem mv_X11_takesNumber : MVk mX11_takesNumber := ⟨tb_8 (i := 1) rfl rfl, tb_0 (i := 102) rfl rfl⟩
theorem mo_X11_turnsFirst : MOk mX11_turnsFirst 1 := ⟨tb_8 (i := 6) rfl rfl, tb_1 (i := 13) rfl rfl, ⟨by decide, by decide⟩, by decide +kernel⟩
theorem mv_X11_turnsFirst : MVk mX11_turnsFirst := ⟨tb_8 (i := 5) rfl rfl, tb_0 (i := 103) rfl rfl⟩
theorem mo_X11_fewestTurnings : MOk mX11_fewestTurnings 0 := ⟨tb_7 (i := 234) rfl rfl, tb_1 (i := 13) rfl rfl, ⟨by decide, by decide⟩, by decide +kernel⟩
theorem mv_X11_fewestTurnings : MVk mX11_fewestTurnings := ⟨tb_7 (i := 233) rfl rfl, tb_0 (i := 100) rfl rfl⟩
theorem mo_X11_turnings : MOk mX11_turnings 2 := ⟨tb_7 (i := 226) rfl rfl, tb_1 (i := 13) rfl rfl, ⟨by decide, by decide⟩, by decide +kernel⟩
theorem mv_X11_turnings : MVk mX11_turnings := ⟨tb_7 (i := 224) rfl rfl, tb_7 (i := 225) rfl rfl⟩
theorem mo_X11_folds : MOk mX11_folds 2 := ⟨tb_8 (i := 14) rfl rfl, tb_1 (i := 13) rfl rfl, ⟨by decide, by decide⟩, by decide +kernel⟩
theorem mv_X11_folds : MVk mX11_folds := ⟨tb_8 (i := 13) rfl rfl, tb_0 (i := 104) rfl rfl⟩
theorem mo_X11_strip : MOk mX11_strip 3 := ⟨tb_8 (i := 10) rfl rfl, tb_1 (i := 13) rfl rfl, ⟨by decide, by decide⟩, by decide +kernel⟩
theorem mv_X11_strip : MVk mX11_strip := ⟨tb_8 (i := 8) rfl rfl, tb_8 (i := 9) rfl rfl⟩
theorem mo_X11_answer : MOk mX11_answer 1 := ⟨tb_8 (i := 18) rfl rfl, tb_1 (i := 13) rfl rfl, ⟨by decide, by decide⟩, by decide +kernel⟩
theorem mv_X11_answer : MVk mX11_answer := ⟨tb_8 (i := 16) rfl rfl, tb_8 (i := 17) rfl rfl⟩
theorem mo_X11_boxes : MOk mX11_boxes 1 := ⟨tb_8 (i := 22) rfl rfl, tb_1 (i := 13) rfl rfl, ⟨by decide, by decide⟩, by decide +kernel⟩
theorem mv_X11_boxes : MVk mX11_boxes := ⟨tb_8 (i := 20) rfl rfl, tb_8 (i := 21) rfl rfl⟩
theorem mo_X11_piles : MOk mX11_piles 2 := ⟨tb_8 (i := 26) rfl rfl, tb_1 (i := 13) rfl rfl, ⟨by decide, by decide⟩, by decide +kernel⟩
theorem mv_X11_piles : MVk mX11_piles := ⟨tb_8 (i := 24) rfl rfl, tb_8 (i := 25) rfl rfl⟩
theorem mo_X11_dealt : MOk mX11_dealt 1 := ⟨tb_8 (i := 30) rfl rfl, tb_1 (i := 13) rfl rfl, ⟨by decide, by decide⟩, by decide +kernel⟩
theorem mv_X11_dealt : MVk mX11_dealt := ⟨tb_8 (i := 28) rfl rfl, tb_8 (i := 29) rfl rfl⟩
theorem mo_X11_key : MOk mX11_key 1 := ⟨tb_8 (i := 34) rfl rfl, tb_1 (i := 13) rfl rfl, ⟨by decide, by decide⟩, by decide +kernel⟩
theorem mv_X11_key : MVk mX11_key := ⟨tb_8 (i := 32) rfl rfl, tb_8 (i := 33) rfl rfl⟩
theorem mo_X11_looksFor : MOk mX11_looksFor 2 := ⟨tb_8 (i := 42) rfl rfl, tb_1 (i := 13) rfl rfl, ⟨by decide, by decide⟩, by decide +kernel⟩
theorem mv_X11_looksFor : MVk mX11_looksFor := ⟨tb_8 (i := 41) rfl rfl, tb_0 (i := 105) rfl rfl⟩
theorem mo_X11_table : MOk mX11_table 3 := ⟨tb_8 (i := 38) rfl rfl, tb_1 (i := 13) rfl rfl, ⟨by decide, by decide⟩, by decide +kernel⟩
theorem mv_X11_table : MVk mX11_table := ⟨tb_8 (i := 36) rfl rfl, tb_8 (i := 37) rfl rfl⟩
theorem mo_X11_ask : MOk mX11_ask 1 := ⟨tb_8 (i := 46) rfl rfl, tb_1 (i := 13) rfl rfl, ⟨by decide, by decide⟩, by decide +kernel⟩
theorem mv_X11_ask : MVk mX11_ask := ⟨tb_8 (i := 44) rfl rfl, tb_8 (i := 45) rfl rfl⟩
theorem mo_X11_askedWhen : MOk mX11_askedWhen 3 := ⟨tb_8 (i := 62) rfl rfl, tb_1 (i := 13) rfl rfl, ⟨by decide, by decide⟩, by decide +kernel⟩
theorem mv_X11_askedWhen : MVk mX11_askedWhen := ⟨tb_8 (i := 61) rfl rfl, tb_0 (i := 108) rfl rfl⟩
theorem mo_X11_goesOut : MOk mX11_goesOut 3 := ⟨tb_8 (i := 58) rfl rfl, tb_1 (i := 13) rfl rfl, ⟨by decide, by decide⟩, by decide +kernel⟩
theorem mv_X11_goesOut : MVk mX11_goesOut := ⟨tb_8 (i := 57) rfl rfl, tb_0 (i := 107) rfl rfl⟩
theorem mo_X11_pages : MOk mX11_pages 2 := ⟨tb_8 (i := 50) rfl rfl, tb_1 (i := 13) rfl rfl, ⟨by decide, by decide⟩, by decide +kernel⟩
theorem mv_X11_pages : MVk mX11_pages := ⟨tb_8 (i := 48) rfl rfl, tb_8 (i := 49) rfl rfl⟩
theorem mo_X11_casesOf : MOk mX11_casesOf 1 := ⟨tb_8 (i := 75) rfl rfl, tb_1 (i := 13) rfl rfl, ⟨by decide, by decide⟩, by decide +kernel⟩
theorem mv_X11_casesOf : MVk mX11_casesOf := ⟨tb_8 (i := 74) rfl rfl, tb_0 (i := 110) rfl rfl⟩
theorem mo_X11_isSide : MOk mX11_isSide 2 := ⟨tb_8 (i := 71) rfl rfl, tb_1 (i := 13) rfl rfl, ⟨by decide, by decide⟩, by decide +kernel⟩
theorem mv_X11_isSide : MVk mX11_isSide := ⟨tb_8 (i := 70) rfl rfl, tb_0 (i := 109) rfl rfl⟩
theorem mo_X11_truth : MOk mX11_truth 2 := ⟨tb_8 (i := 66) rfl rfl, tb_1 (i := 13) rfl rfl, ⟨by decide, by decide⟩, by decide +kernel⟩
theorem mv_X11_truth : MVk mX11_truth := ⟨tb_8 (i := 64) rfl rfl, tb_8 (i := 65) rfl rfl⟩
theorem mo_X11_meetsOf : MOk mX11_meetsOf 3 := ⟨tb_8 (i := 83) rfl rfl, tb_1 (i := 13) rfl rfl, ⟨by decide, by decide⟩, by decide +kernel⟩
theorem mv_X11_meetsOf : MVk mX11_meetsOf := ⟨tb_8 (i := 82) rfl rfl, tb_0 (i := 111) rfl rfl⟩
theorem mo_X11_rounds : MOk mX11_rounds 3 := ⟨tb_8 (i := 79) rfl rfl, tb_1 (i := 13) rfl rfl, ⟨by decide, by decide⟩, by decide +kernel⟩
theorem mv_X11_rounds : MVk mX11_rounds := ⟨tb_8 (i := 77) rfl rfl, tb_8 (i := 78) rfl rfl⟩
theorem mo_X11_meets : MOk mX11_meets 3 := ⟨tb_8 (i := 87) rfl rfl, tb_1 (i := 13) rfl rfl, ⟨by decide, by decide⟩, by decide +kernel⟩
theorem mv_X11_meets : MVk mX11_meets := ⟨tb_8 (i := 85) rfl rfl, tb_8 (i := 86) rfl rfl⟩
theorem mo_X11_rows : MOk mX11_rows 2 := ⟨tb_8 (i := 91) rfl rfl, tb_1 (i := 13) rfl rfl, ⟨by decide, by decide⟩, by decide +kernel⟩
theorem mv_X11_rows : MVk mX11_rows := ⟨tb_8 (i := 89) rfl rfl, tb_8 (i := 90) rfl rfl⟩
theorem mo_X11_digit : MOk mX11_digit 1 := ⟨tb_8 (i := 95) rfl rfl, tb_1 (i := 13) rfl rfl, ⟨by decide, by decide⟩, by decide +kernel⟩
theorem mv_X11_digit : MVk mX11_digit := ⟨tb_8 (i := 93) rfl rfl, tb_8 (i := 94) rfl rfl⟩
theorem mo_X11_choicesOf : MOk mX11_choicesOf 1 := ⟨tb_8 (i := 107) rfl rfl, tb_1 (i := 13) rfl rfl, ⟨by decide, by decide⟩, by decide +kernel⟩
theorem mv_X11_choicesOf : MVk mX11_choicesOf := ⟨tb_8 (i := 106) rfl rfl, tb_0 (i := 113) rfl rfl⟩
theorem mo_X11_waysFrom : MOk mX11_waysFrom 1 := ⟨tb_8 (i := 103) rfl rfl, tb_1 (i := 13) rfl rfl, ⟨by decide, by decide⟩, by decide +kernel⟩
theorem mv_X11_waysFrom : MVk mX11_waysFrom := ⟨tb_8 (i := 102) rfl rfl, tb_0 (i := 112) rfl rfl⟩
theorem mo_X11_spelt : MOk mX11_spelt 2 := ⟨tb_8 (i := 99) rfl rfl, tb_1 (i := 13) rfl rfl, ⟨by decide, by decide⟩, by decide +kernel⟩
theorem mv_X11_spelt : MVk mX11_spelt := ⟨tb_8 (i := 97) rfl rfl, tb_8 (i := 98) rfl rfl⟩
theorem mo_X11_areThree : MOk mX11_areThree 1 := ⟨tb_8 (i := 115) rfl rfl, tb_1 (i := 13) rfl rfl, ⟨by decide, by decide⟩, by decide +kernel⟩
theorem mv_X11_areThree : MVk mX11_areThree := ⟨tb_8 (i := 114) rfl rfl, tb_0 (i := 114) rfl rfl⟩
theorem mo_X11_goodFilling : MOk mX11_goodFilling 2 := ⟨tb_8 (i := 119) rfl rfl, tb_1 (i := 13) rfl rfl, ⟨by decide, by decide⟩, by decide +kernel⟩
theorem mv_X11_goodFilling : MVk mX11_goodFilling := ⟨tb_8 (i := 118) rfl rfl, tb_0 (i := 115) rfl rfl⟩
theorem mo_X11_game : MOk mX11_game 2 := ⟨tb_8 (i := 111) rfl rfl, tb_1 (i := 13) rfl rfl, ⟨by decide, by decide⟩, by decide +kernel⟩
theorem mv_X11_game : MVk mX11_game := ⟨tb_8 (i := 109) rfl rfl, tb_8 (i := 110) rfl rfl⟩
theorem mo_X11_keeps : MOk mX11_keeps 1 := ⟨tb_8 (i := 127) rfl rfl, tb_1 (i := 13) rfl rfl, ⟨by decide, by decide⟩, by decide +kernel⟩
theorem mv_X11_keeps : MVk mX11_keeps := ⟨tb_8 (i := 126) rfl rfl, tb_0 (i := 116) rfl rfl⟩
theorem mo_X11_keepsLaw : MOk mX11_keepsLaw 0 := ⟨tb_8 (i := 135) rfl rfl, tb_1 (i := 13) rfl rfl, ⟨by decide, by decide⟩, by decide +kernel⟩
theorem mv_X11_keepsLaw : MVk mX11_keepsLaw := ⟨tb_8 (i := 134) rfl rfl, tb_0 (i := 118) rfl rfl⟩
theorem mo_X11_keepsTold : MOk mX11_keepsTold 0 := ⟨tb_8 (i := 131) rfl rfl, tb_1 (i := 13) rfl rfl, ⟨by decide, by decide⟩, by decide +kernel⟩
theorem mv_X11_keepsTold : MVk mX11_keepsTold := ⟨tb_8 (i := 130) rfl rfl, tb_0 (i := 117) rfl rfl⟩
theorem mo_X11_image : MOk mX11_image 1 := ⟨tb_8 (i := 123) rfl rfl, tb_1 (i := 13) rfl rfl, ⟨by decide, by decide⟩, by decide +kernel⟩
theorem mv_X11_image : MVk mX11_image := ⟨tb_8 (i := 121) rfl rfl, tb_8 (i := 122) rfl rfl⟩
theorem mo_X11_setThatIs : MOk mX11_setThatIs 1 := ⟨tb_8 (i := 143) rfl rfl, tb_1 (i := 13) rfl rfl, ⟨by decide, by decide⟩, by decide +kernel⟩
theorem mv_X11_setThatIs : MVk mX11_setThatIs := ⟨tb_8 (i := 142) rfl rfl, tb_0 (i := 119) rfl rfl⟩
theorem mo_X11_look : MOk mX11_look 1 := ⟨tb_8 (i := 139) rfl rfl, tb_1 (i := 13) rfl rfl, ⟨by decide, by decide⟩, by decide +kernel⟩
theorem mv_X11_look : MVk mX11_look := ⟨tb_8 (i := 137) rfl rfl, tb_8 (i := 138) rfl rfl⟩
theorem mo_J6_bitCount_0f7a4 : MOk mJ6_bitCount_0f7a4 1 := ⟨tb_3 (i := 24) rfl rfl, tb_1 (i := 15) rfl rfl, ⟨by decide, by decide⟩, by decide +kernel⟩
theorem ms_J6_bitCount_0f7a4 : Cond.static (mY mJ6_bitCount_0f7a4) ∈ tb := tb_3 (i := 23) rfl rfl
theorem mo_J9_floorMod_7cf53 : MOk mJ9_floorMod_7cf53 2 := ⟨tb_5 (i := 37) rfl rfl, tb_1 (i := 8) rfl rfl, ⟨by decide, by decide⟩, by decide +kernel⟩
theorem ms_J9_floorMod_7cf53 : Cond.static (mY mJ9_floorMod_7cf53) ∈ tb := tb_5 (i := 36) rfl rfl
theorem mo_J9_abs_0f7a4 : MOk mJ9_abs_0f7a4 1 := ⟨tb_4 (i := 134) rfl rfl, tb_1 (i := 8) rfl rfl, ⟨by decide, by decide⟩, by decide +kernel⟩
theorem ms_J9_abs_0f7a4 : Cond.static (mY mJ9_abs_0f7a4) ∈ tb := tb_4 (i := 133) rfl rfl
theorem mo_J9_max_7cf53 : MOk mJ9_max_7cf53 2 := ⟨tb_1 (i := 217) rfl rfl, tb_1 (i := 8) rfl rfl, ⟨by decide, by decide⟩, by decide +kernel⟩
theorem ms_J9_max_7cf53 : Cond.static (mY mJ9_max_7cf53) ∈ tb := tb_1 (i := 216) rfl rfl
theorem mo_J9_min_7cf53 : MOk mJ9_min_7cf53 2 := ⟨tb_3 (i := 51) rfl rfl, tb_1 (i := 8) rfl rfl, ⟨by decide, by decide⟩, by decide +kernel⟩
theorem ms_J9_min_7cf53 : Cond.static (mY mJ9_min_7cf53) ∈ tb := tb_3 (i := 50) rfl rfl
theorem mo_J0_length_8abf5 : MOk mJ0_length_8abf5 0 := ⟨tb_3 (i := 155) rfl rfl, tb_1 (i := 16) rfl rfl, ⟨by decide, by decide⟩, by decide +kernel⟩
theorem mv_J0_length_8abf5 : MVk mJ0_length_8abf5 := ⟨tb_3 (i := 153) rfl rfl, tb_3 (i := 154) rfl rfl⟩
theorem mo_J0_charAt_5068e : MOk mJ0_charAt_5068e 1 := ⟨tb_3 (i := 165) rfl rfl, tb_1 (i := 16) rfl rfl, ⟨by decide, by decide⟩, by decide +kernel⟩
theorem mv_J0_charAt_5068e : MVk mJ0_charAt_5068e := ⟨tb_3 (i := 163) rfl rfl, tb_3 (i := 164) rfl rfl⟩
theorem mo_J0_coder_7d493 : MOk mJ0_coder_7d493 0 := ⟨tb_3 (i := 159) rfl rfl, tb_1 (i := 16) rfl rfl, ⟨by decide, by decide⟩, by decide +kernel⟩
theorem mv_J0_coder_7d493 : MVk mJ0_coder_7d493 := ⟨tb_3 (i := 157) rfl rfl, tb_3 (i := 158) rfl rfl⟩
theorem mo_J0_isLatin1_aae02 : MOk mJ0_isLatin1_aae02 0 := ⟨tb_3 (i := 169) rfl rfl, tb_1 (i := 16) rfl rfl, ⟨by decide, by decide⟩, by decide +kernel⟩
theorem mv_J0_isLatin1_aae02 : MVk mJ0_isLatin1_aae02 := ⟨tb_3 (i := 167) rfl rfl, tb_3 (i := 168) rfl rfl⟩
theorem mo_J0_checkIndex_df160 : MOk mJ0_checkIndex_df160 2 := ⟨tb_3 (i := 175) rfl rfl, tb_1 (i := 16) rfl rfl, ⟨by decide, by decide⟩, by decide +kernel⟩
theorem ms_J0_checkIndex_df160 : Cond.static (mY mJ0_checkIndex_df160) ∈ tb := tb_3 (i := 174) rfl rfl
theorem mo_J1_charAt_3b067 : MOk mJ1_charAt_3b067 2 := ⟨tb_3 (i := 172) rfl rfl, tb_1 (i := 17) rfl rfl, ⟨by decide, by decide⟩, by decide +kernel⟩
theorem ms_J1_charAt_3b067 : Cond.static (mY mJ1_charAt_3b067) ∈ tb := tb_3 (i := 171) rfl rfl
theorem mo_J7_fill_53178 : MOk mJ7_fill_53178 2 := ⟨tb_4 (i := 213) rfl rfl, tb_1 (i := 20) rfl rfl, ⟨by decide, by decide⟩, by decide +kernel⟩
theorem ms_J7_fill_53178 : Cond.static (mY mJ7_fill_53178) ∈ tb := tb_4 (i := 212) rfl rfl
theorem mo_J3_checkIndex_8e157 : MOk mJ3_checkIndex_8e157 3 := ⟨tb_3 (i := 180) rfl rfl, tb_1 (i := 18) rfl rfl, ⟨by decide, by decide⟩, by decide +kernel⟩
theorem ms_J3_checkIndex_8e157 : Cond.static (mY mJ3_checkIndex_8e157) ∈ tb := tb_3 (i := 179) rfl rfl
