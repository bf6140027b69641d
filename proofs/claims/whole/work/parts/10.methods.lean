abbrev mX0_init : Mi := (yX0_init, cX0_init, 1, none)
abbrev mX0_copy : Mi := (yX0_copy, cX0_copy, 2, none)
abbrev mX0_read : Mi := (yX0_read, cX0_read, 3, (some .int))
abbrev mX0_write : Mi := (yX0_write, cX0_write, 6, none)
abbrev mX1_init : Mi := (yX1_init, cX1_init, 1, none)
abbrev mX1_copy : Mi := (yX1_copy, cX1_copy, 2, none)
abbrev mX1_askLaw : Mi := (yX1_askLaw, cX1_askLaw, 7, (some .int))
abbrev mX1_see : Mi := (yX1_see, cX1_see, 6, none)
abbrev mX1_customary : Mi := (yX1_customary, cX1_customary, 2, (some .int))
abbrev mX1_held : Mi := (yX1_held, cX1_held, 3, (some .int))
abbrev mX1_doDeed : Mi := (yX1_doDeed, cX1_doDeed, 5, none)
abbrev mX1_tie : Mi := (yX1_tie, cX1_tie, 5, none)
abbrev mX1_wash : Mi := (yX1_wash, cX1_wash, 6, none)
abbrev mX1_pull : Mi := (yX1_pull, cX1_pull, 4, none)
abbrev mX1_passDay : Mi := (yX1_passDay, cX1_passDay, 5, (some .int))
abbrev mX1_isTold : Mi := (yX1_isTold, cX1_isTold, 4, (some .boolean))
abbrev mX1_settle : Mi := (yX1_settle, cX1_settle, 5, none)
abbrev mX2_init : Mi := (yX2_init, cX2_init, 1, none)
abbrev mX2_copy : Mi := (yX2_copy, cX2_copy, 2, none)
abbrev mX2_empty : Mi := (yX2_empty, cX2_empty, 1, none)
abbrev mX2_put : Mi := (yX2_put, cX2_put, 2, none)
abbrev mX2_addLine : Mi := (yX2_addLine, cX2_addLine, 4, none)
abbrev mX2_lineFor : Mi := (yX2_lineFor, cX2_lineFor, 4, (some .int))
abbrev mX2_told : Mi := (yX2_told, cX2_told, 3, (some .int))
abbrev mX2_worth : Mi := (yX2_worth, cX2_worth, 9, (some .int))
abbrev mX3_init : Mi := (yX3_init, cX3_init, 1, none)
abbrev mX3_readLaw : Mi := (yX3_readLaw, cX3_readLaw, 6, (some .boolean))
abbrev mX3_readCondition : Mi := (yX3_readCondition, cX3_readCondition, 6, (some .boolean))
abbrev mX3_readClaim : Mi := (yX3_readClaim, cX3_readClaim, 5, (some .boolean))
abbrev mX3_readSum : Mi := (yX3_readSum, cX3_readSum, 4, (some .boolean))
abbrev mX3_readProduct : Mi := (yX3_readProduct, cX3_readProduct, 4, (some .boolean))
abbrev mX4_init : Mi := (yX4_init, cX4_init, 1, none)
abbrev mX4_readLines : Mi := (yX4_readLines, cX4_readLines, 5, (some .boolean))
abbrev mX4_readLine : Mi := (yX4_readLine, cX4_readLine, 5, (some .boolean))
abbrev mX4_takeNumber : Mi := (yX4_takeNumber, cX4_takeNumber, 3, (some .boolean))
abbrev mX4_readDeed : Mi := (yX4_readDeed, cX4_readDeed, 7, (some .boolean))
abbrev mX4_readMind : Mi := (yX4_readMind, cX4_readMind, 5, (some .boolean))
abbrev mX4_readFriends : Mi := (yX4_readFriends, cX4_readFriends, 4, (some .boolean))
abbrev mX5_init : Mi := (yX5_init, cX5_init, 1, none)
abbrev mX5_copy : Mi := (yX5_copy, cX5_copy, 2, none)
abbrev mX5_add : Mi := (yX5_add, cX5_add, 5, none)
abbrev mX5_friendsOf : Mi := (yX5_friendsOf, cX5_friendsOf, 4, (some .int))
abbrev mX6_init : Mi := (yX6_init, cX6_init, 1, none)
abbrev mX6_strandEnd : Mi := (yX6_strandEnd, cX6_strandEnd, 5, (some .int))
abbrev mX6_crossingsLeft : Mi := (yX6_crossingsLeft, cX6_crossingsLeft, 5, (some .int))
abbrev mX6_layRow : Mi := (yX6_layRow, cX6_layRow, 7, (some .boolean))
abbrev mX6_strangeCouples : Mi := (yX6_strangeCouples, cX6_strangeCouples, 3, (some .int))
abbrev mX6_fewestTurnings : Mi := (yX6_fewestTurnings, cX6_fewestTurnings, 2, (some .int))
abbrev mX6_isInOrderBy : Mi := (yX6_isInOrderBy, cX6_isInOrderBy, 5, (some .boolean))
abbrev mX6_turn : Mi := (yX6_turn, cX6_turn, 4, none)
abbrev mX6_cellAt : Mi := (yX6_cellAt, cX6_cellAt, 4, (some .int))
abbrev mX6_folded : Mi := (yX6_folded, cX6_folded, 10, (some .int))
abbrev mX6_boxAfter : Mi := (yX6_boxAfter, cX6_boxAfter, 4, (some .int))
abbrev mX6_nextAsked : Mi := (yX6_nextAsked, cX6_nextAsked, 3, (some .int))
abbrev mX6_dealtTo : Mi := (yX6_dealtTo, cX6_dealtTo, 6, (some .int))
abbrev mX6_layTable : Mi := (yX6_layTable, cX6_layTable, 6, none)
abbrev mX6_looksFor : Mi := (yX6_looksFor, cX6_looksFor, 5, (some .int))
abbrev mX6_lastLookFound : Mi := (yX6_lastLookFound, cX6_lastLookFound, 5, (some .int))
abbrev mX6_placeBehind : Mi := (yX6_placeBehind, cX6_placeBehind, 3, (some .int))
abbrev mX6_isPlace : Mi := (yX6_isPlace, cX6_isPlace, 2, (some .boolean))
abbrev mX6_misses : Mi := (yX6_misses, cX6_misses, 7, (some .int))
abbrev mX6_whichGoes : Mi := (yX6_whichGoes, cX6_whichGoes, 8, (some .int))
abbrev mX6_stepsTo : Mi := (yX6_stepsTo, cX6_stepsTo, 6, (some .int))
abbrev mX6_sidesWith : Mi := (yX6_sidesWith, cX6_sidesWith, 5, (some .int))
abbrev mX6_casesOfOneSide : Mi := (yX6_casesOfOneSide, cX6_casesOfOneSide, 6, (some .int))
abbrev mX6_isSide : Mi := (yX6_isSide, cX6_isSide, 4, (some .boolean))
abbrev mX6_casesOf : Mi := (yX6_casesOf, cX6_casesOf, 4, (some .int))
abbrev mX6_meetsInRound : Mi := (yX6_meetsInRound, cX6_meetsInRound, 3, (some .int))
abbrev mX6_waysInRows : Mi := (yX6_waysInRows, cX6_waysInRows, 4, (some .int))
abbrev mX6_lettersOf : Mi := (yX6_lettersOf, cX6_lettersOf, 1, (some .int))
abbrev mX6_spellings : Mi := (yX6_spellings, cX6_spellings, 4, (some .int))
abbrev mX6_letterAt : Mi := (yX6_letterAt, cX6_letterAt, 5, (some .int))
abbrev mX6_winningPlace : Mi := (yX6_winningPlace, cX6_winningPlace, 3, (some .int))
abbrev mX6_hasThree : Mi := (yX6_hasThree, cX6_hasThree, 1, (some .boolean))
abbrev mX6_isSafe : Mi := (yX6_isSafe, cX6_isSafe, 3, (some .boolean))
abbrev mX6_nimberLeft : Mi := (yX6_nimberLeft, cX6_nimberLeft, 5, (some .int))
abbrev mX7_init : Mi := (yX7_init, cX7_init, 1, none)
abbrev mX7_put : Mi := (yX7_put, cX7_put, 3, none)
abbrev mX7_rewind : Mi := (yX7_rewind, cX7_rewind, 1, none)
abbrev mX7_next : Mi := (yX7_next, cX7_next, 1, none)
abbrev mX7_isLetter : Mi := (yX7_isLetter, cX7_isLetter, 1, (some .boolean))
abbrev mX7_isDigit : Mi := (yX7_isDigit, cX7_isDigit, 1, (some .boolean))
abbrev mX7_keyword : Mi := (yX7_keyword, cX7_keyword, 6, (some .int))
abbrev mX7_refuse : Mi := (yX7_refuse, cX7_refuse, 2, (some .boolean))
abbrev mX7_take : Mi := (yX7_take, cX7_take, 2, (some .boolean))
abbrev mX7_isNumber : Mi := (yX7_isNumber, cX7_isNumber, 3, (some .boolean))
abbrev mX8_init : Mi := (yX8_init, cX8_init, 2, none)
abbrev mX8_copy : Mi := (yX8_copy, cX8_copy, 3, none)
abbrev mX8_empty : Mi := (yX8_empty, cX8_empty, 1, (some .int))
abbrev mX8_tell : Mi := (yX8_tell, cX8_tell, 2, (some .int))
abbrev mX8_get : Mi := (yX8_get, cX8_get, 2, (some .int))
abbrev mX9_init : Mi := (yX9_init, cX9_init, 2, none)
abbrev mX9_copy : Mi := (yX9_copy, cX9_copy, 2, none)
abbrev mX9_hasPerson : Mi := (yX9_hasPerson, cX9_hasPerson, 2, (some .boolean))
abbrev mX9_hasCloth : Mi := (yX9_hasCloth, cX9_hasCloth, 2, (some .boolean))
abbrev mX9_hasThing : Mi := (yX9_hasThing, cX9_hasThing, 2, (some .boolean))
abbrev mX9_addPerson : Mi := (yX9_addPerson, cX9_addPerson, 2, (some .int))
abbrev mX9_addCloth : Mi := (yX9_addCloth, cX9_addCloth, 2, (some .int))
abbrev mX9_addThing : Mi := (yX9_addThing, cX9_addThing, 3, (some .int))
abbrev mX9_change : Mi := (yX9_change, cX9_change, 4, (some .boolean))
abbrev mX9_isOpen : Mi := (yX9_isOpen, cX9_isOpen, 2, (some .boolean))
abbrev mX9_thingsThatAre : Mi := (yX9_thingsThatAre, cX9_thingsThatAre, 4, (some .int))
abbrev mX9_leftTo : Mi := (yX9_leftTo, cX9_leftTo, 4, (some .int))
abbrev mX9_leastDueOf : Mi := (yX9_leastDueOf, cX9_leastDueOf, 5, (some .int))
abbrev mX9_clothsWith : Mi := (yX9_clothsWith, cX9_clothsWith, 4, (some .int))
abbrev mX9_knotAt : Mi := (yX9_knotAt, cX9_knotAt, 3, (some .int))
abbrev mX9_holderOf : Mi := (yX9_holderOf, cX9_holderOf, 2, (some .int))
abbrev mX9_canDo : Mi := (yX9_canDo, cX9_canDo, 4, (some .boolean))
abbrev mX9_addKnot : Mi := (yX9_addKnot, cX9_addKnot, 4, none)
abbrev mX9_untie : Mi := (yX9_untie, cX9_untie, 6, none)
abbrev mX9_happens : Mi := (yX9_happens, cX9_happens, 2, (some .boolean))
abbrev mX9_drawThousand : Mi := (yX9_drawThousand, cX9_drawThousand, 1, (some .int))
abbrev mX10_init : Mi := (yX10_init, cX10_init, 2, none)
abbrev mX10_state : Mi := (yX10_state, cX10_state, 3, (some .int))
abbrev mX10_person : Mi := (yX10_person, cX10_person, 2, (some .int))
abbrev mX10_cloth : Mi := (yX10_cloth, cX10_cloth, 2, (some .int))
abbrev mX10_thing : Mi := (yX10_thing, cX10_thing, 3, (some .int))
abbrev mX10_set : Mi := (yX10_set, cX10_set, 5, (some .boolean))
abbrev mX10_act : Mi := (yX10_act, cX10_act, 4, (some .boolean))
abbrev mX10_days : Mi := (yX10_days, cX10_days, 4, (some .int))
abbrev mX10_feed : Mi := (yX10_feed, cX10_feed, 6, (some .int))
abbrev mX10_end : Mi := (yX10_end, cX10_end, 2, (some .boolean))
abbrev mX10_text : Mi := (yX10_text, cX10_text, 3, (some .int))
abbrev mX10_fault : Mi := (yX10_fault, cX10_fault, 2, (some .int))
abbrev mX10_of : Mi := (yX10_of, cX10_of, 4, (some .int))
abbrev mX10_clothOf : Mi := (yX10_clothOf, cX10_clothOf, 4, (some .int))
abbrev mX10_thingOf : Mi := (yX10_thingOf, cX10_thingOf, 5, (some .int))
abbrev mX10_book : Mi := (yX10_book, cX10_book, 3, (some .int))
abbrev mX10_goes : Mi := (yX10_goes, cX10_goes, 3, (some .int))
abbrev mX10_fate : Mi := (yX10_fate, cX10_fate, 2, (some .int))
abbrev mX10_crossing : Mi := (yX10_crossing, cX10_crossing, 2, (some .int))
abbrev mX10_braid : Mi := (yX10_braid, cX10_braid, 2, (some .int))
abbrev mX10_turnings : Mi := (yX10_turnings, cX10_turnings, 3, (some .int))
abbrev mX10_strip : Mi := (yX10_strip, cX10_strip, 4, (some .int))
abbrev mX10_answer : Mi := (yX10_answer, cX10_answer, 2, (some .int))
abbrev mX10_boxes : Mi := (yX10_boxes, cX10_boxes, 2, (some .int))
abbrev mX10_piles : Mi := (yX10_piles, cX10_piles, 3, (some .int))
abbrev mX10_dealt : Mi := (yX10_dealt, cX10_dealt, 2, (some .int))
abbrev mX10_key : Mi := (yX10_key, cX10_key, 2, (some .int))
abbrev mX10_table : Mi := (yX10_table, cX10_table, 5, (some .int))
abbrev mX10_ask : Mi := (yX10_ask, cX10_ask, 2, (some .int))
abbrev mX10_pages : Mi := (yX10_pages, cX10_pages, 3, (some .int))
abbrev mX10_truth : Mi := (yX10_truth, cX10_truth, 3, (some .int))
abbrev mX10_rounds : Mi := (yX10_rounds, cX10_rounds, 6, (some .int))
abbrev mX10_meets : Mi := (yX10_meets, cX10_meets, 6, (some .int))
abbrev mX10_rows : Mi := (yX10_rows, cX10_rows, 3, (some .int))
abbrev mX10_digit : Mi := (yX10_digit, cX10_digit, 2, (some .int))
abbrev mX10_spelt : Mi := (yX10_spelt, cX10_spelt, 4, (some .int))
abbrev mX10_game : Mi := (yX10_game, cX10_game, 3, (some .int))
abbrev mX10_undo : Mi := (yX10_undo, cX10_undo, 2, (some .boolean))
abbrev mX10_image : Mi := (yX10_image, cX10_image, 2, (some .boolean))
abbrev mX10_look : Mi := (yX10_look, cX10_look, 3, (some .int))
abbrev mX10_isWithin : Mi := (yX10_isWithin, cX10_isWithin, 3, (some .boolean))
abbrev mX10_sum : Mi := (yX10_sum, cX10_sum, 4, (some .int))
abbrev mX10_forgetUndosFor : Mi := (yX10_forgetUndosFor, cX10_forgetUndosFor, 2, (some .int))
abbrev mX10_keepForUndo : Mi := (yX10_keepForUndo, cX10_keepForUndo, 3, none)
abbrev mX10_think : Mi := (yX10_think, cX10_think, 3, none)
abbrev mX10_tellLines : Mi := (yX10_tellLines, cX10_tellLines, 3, (some .int))
abbrev mX11_init : Mi := (yX11_init, cX11_init, 1, none)
abbrev mX11_isIn : Mi := (yX11_isIn, cX11_isIn, 4, (some .boolean))
abbrev mX11_held : Mi := (yX11_held, cX11_held, 4, (some .int))
abbrev mX11_lesser : Mi := (yX11_lesser, cX11_lesser, 3, (some .int))
abbrev mX11_onesOf : Mi := (yX11_onesOf, cX11_onesOf, 4, (some .int))
abbrev mX11_has : Mi := (yX11_has, cX11_has, 3, (some .boolean))
abbrev mX11_keepsAhead : Mi := (yX11_keepsAhead, cX11_keepsAhead, 2, none)
abbrev mX11_undo : Mi := (yX11_undo, cX11_undo, 2, (some .boolean))
abbrev mX11_thinks : Mi := (yX11_thinks, cX11_thinks, 2, none)
abbrev mX11_endsThought : Mi := (yX11_endsThought, cX11_endsThought, 2, none)
abbrev mX11_state : Mi := (yX11_state, cX11_state, 3, (some .int))
abbrev mX11_draw : Mi := (yX11_draw, cX11_draw, 2, (some .int))
abbrev mX11_isPerson : Mi := (yX11_isPerson, cX11_isPerson, 2, (some .boolean))
abbrev mX11_isCloth : Mi := (yX11_isCloth, cX11_isCloth, 2, (some .boolean))
abbrev mX11_isThing : Mi := (yX11_isThing, cX11_isThing, 2, (some .boolean))
abbrev mX11_isOpen : Mi := (yX11_isOpen, cX11_isOpen, 2, (some .boolean))
abbrev mX11_inCloth : Mi := (yX11_inCloth, cX11_inCloth, 2, (some .int))
abbrev mX11_knotOf : Mi := (yX11_knotOf, cX11_knotOf, 3, (some .int))
abbrev mX11_knotsOf : Mi := (yX11_knotsOf, cX11_knotsOf, 3, (some .int))
abbrev mX11_person : Mi := (yX11_person, cX11_person, 2, (some .int))
abbrev mX11_cloth : Mi := (yX11_cloth, cX11_cloth, 3, (some .int))
abbrev mX11_thing : Mi := (yX11_thing, cX11_thing, 3, (some .int))
abbrev mX11_canSet : Mi := (yX11_canSet, cX11_canSet, 4, (some .boolean))
abbrev mX11_set : Mi := (yX11_set, cX11_set, 4, (some .boolean))
abbrev mX11_types : Mi := (yX11_types, cX11_types, 3, none)
abbrev mX11_feed : Mi := (yX11_feed, cX11_feed, 6, (some .int))
abbrev mX11_end : Mi := (yX11_end, cX11_end, 2, (some .boolean))
abbrev mX11_raw : Mi := (yX11_raw, cX11_raw, 2, (some .int))
abbrev mX11_isLetter : Mi := (yX11_isLetter, cX11_isLetter, 2, (some .boolean))
abbrev mX11_isDigit : Mi := (yX11_isDigit, cX11_isDigit, 2, (some .boolean))
abbrev mX11_isMarkSign : Mi := (yX11_isMarkSign, cX11_isMarkSign, 2, (some .boolean))
abbrev mX11_wordAt : Mi := (yX11_wordAt, cX11_wordAt, 6, (some .int))
abbrev mX11_reads : Mi := (yX11_reads, cX11_reads, 2, none)
abbrev mX11_errs : Mi := (yX11_errs, cX11_errs, 2, (some .int))
abbrev mX11_isWord : Mi := (yX11_isWord, cX11_isWord, 2, (some .boolean))
abbrev mX11_isSign : Mi := (yX11_isSign, cX11_isSign, 2, (some .boolean))
abbrev mX11_emits : Mi := (yX11_emits, cX11_emits, 3, none)
abbrev mX11_canAsk : Mi := (yX11_canAsk, cX11_canAsk, 2, (some .boolean))
abbrev mX11_readUnit : Mi := (yX11_readUnit, cX11_readUnit, 2, (some .int))
abbrev mX11_readProduct : Mi := (yX11_readProduct, cX11_readProduct, 2, (some .int))
abbrev mX11_readSum : Mi := (yX11_readSum, cX11_readSum, 2, (some .int))
abbrev mX11_readCompared : Mi := (yX11_readCompared, cX11_readCompared, 2, (some .int))
abbrev mX11_waits : Mi := (yX11_waits, cX11_waits, 2, none)
abbrev mX11_settles : Mi := (yX11_settles, cX11_settles, 2, none)
abbrev mX11_readAny : Mi := (yX11_readAny, cX11_readAny, 4, (some .int))
abbrev mX11_isLineWord : Mi := (yX11_isLineWord, cX11_isLineWord, 1, (some .boolean))
abbrev mX11_readLaw : Mi := (yX11_readLaw, cX11_readLaw, 3, (some .int))
abbrev mX11_takesLaw : Mi := (yX11_takesLaw, cX11_takesLaw, 3, none)
abbrev mX11_readNumber : Mi := (yX11_readNumber, cX11_readNumber, 4, (some .int))
abbrev mX11_readMark : Mi := (yX11_readMark, cX11_readMark, 2, (some .int))
abbrev mX11_readTold : Mi := (yX11_readTold, cX11_readTold, 4, (some .int))
abbrev mX11_readDeed : Mi := (yX11_readDeed, cX11_readDeed, 3, (some .int))
abbrev mX11_readDeeds : Mi := (yX11_readDeeds, cX11_readDeeds, 2, (some .int))
abbrev mX11_readMind : Mi := (yX11_readMind, cX11_readMind, 2, (some .int))
abbrev mX11_readMinds : Mi := (yX11_readMinds, cX11_readMinds, 2, (some .int))
abbrev mX11_readFriend : Mi := (yX11_readFriend, cX11_readFriend, 3, (some .int))
abbrev mX11_readFriends : Mi := (yX11_readFriends, cX11_readFriends, 2, (some .int))
abbrev mX11_readsText : Mi := (yX11_readsText, cX11_readsText, 2, (some .int))
abbrev mX11_takesOther : Mi := (yX11_takesOther, cX11_takesOther, 4, none)
abbrev mX11_text : Mi := (yX11_text, cX11_text, 3, (some .int))
abbrev mX11_fault : Mi := (yX11_fault, cX11_fault, 2, (some .int))
abbrev mX11_twoOf : Mi := (yX11_twoOf, cX11_twoOf, 4, (some .int))
abbrev mX11_runs : Mi := (yX11_runs, cX11_runs, 6, (some .int))
abbrev mX11_lineOf : Mi := (yX11_lineOf, cX11_lineOf, 3, (some .int))
abbrev mX11_openMany : Mi := (yX11_openMany, cX11_openMany, 3, (some .int))
abbrev mX11_asks : Mi := (yX11_asks, cX11_asks, 5, none)
abbrev mX11_lawTells : Mi := (yX11_lawTells, cX11_lawTells, 6, (some .int))
abbrev mX11_tiesOf : Mi := (yX11_tiesOf, cX11_tiesOf, 3, (some .int))
abbrev mX11_slipsOf : Mi := (yX11_slipsOf, cX11_slipsOf, 2, (some .int))
abbrev mX11_tellsOf : Mi := (yX11_tellsOf, cX11_tellsOf, 2, (some .int))
abbrev mX11_notes : Mi := (yX11_notes, cX11_notes, 5, none)
abbrev mX11_canTie : Mi := (yX11_canTie, cX11_canTie, 3, (some .boolean))
abbrev mX11_isTied : Mi := (yX11_isTied, cX11_isTied, 4, none)
abbrev mX11_comesOut : Mi := (yX11_comesOut, cX11_comesOut, 5, none)
abbrev mX11_happens : Mi := (yX11_happens, cX11_happens, 2, (some .boolean))
abbrev mX11_isWashed : Mi := (yX11_isWashed, cX11_isWashed, 4, none)
abbrev mX11_isPulled : Mi := (yX11_isPulled, cX11_isPulled, 3, none)
abbrev mX11_canAct : Mi := (yX11_canAct, cX11_canAct, 4, (some .boolean))
abbrev mX11_does : Mi := (yX11_does, cX11_does, 4, none)
abbrev mX11_act : Mi := (yX11_act, cX11_act, 4, (some .boolean))
abbrev mX11_comesDue : Mi := (yX11_comesDue, cX11_comesDue, 5, (some .boolean))
abbrev mX11_goesBy : Mi := (yX11_goesBy, cX11_goesBy, 3, (some .int))
abbrev mX11_days : Mi := (yX11_days, cX11_days, 4, (some .int))
abbrev mX11_leftTo : Mi := (yX11_leftTo, cX11_leftTo, 4, (some .int))
abbrev mX11_leastDue : Mi := (yX11_leastDue, cX11_leastDue, 4, (some .int))
abbrev mX11_of : Mi := (yX11_of, cX11_of, 5, (some .int))
abbrev mX11_clothOf : Mi := (yX11_clothOf, cX11_clothOf, 3, (some .int))
abbrev mX11_thingOf : Mi := (yX11_thingOf, cX11_thingOf, 3, (some .int))
abbrev mX11_book : Mi := (yX11_book, cX11_book, 3, (some .int))
abbrev mX11_sumOf : Mi := (yX11_sumOf, cX11_sumOf, 5, (some .int))
abbrev mX11_allKnots : Mi := (yX11_allKnots, cX11_allKnots, 3, (some .int))
abbrev mX11_goes : Mi := (yX11_goes, cX11_goes, 4, (some .int))
abbrev mX11_fate : Mi := (yX11_fate, cX11_fate, 3, (some .int))
abbrev mX11_crossing : Mi := (yX11_crossing, cX11_crossing, 2, (some .int))
abbrev mX11_braid : Mi := (yX11_braid, cX11_braid, 6, (some .int))
abbrev mX11_takesOrder : Mi := (yX11_takesOrder, cX11_takesOrder, 6, (some .boolean))
abbrev mX11_numberOfOrder : Mi := (yX11_numberOfOrder, cX11_numberOfOrder, 5, (some .int))
abbrev mX11_takesNumber : Mi := (yX11_takesNumber, cX11_takesNumber, 5, none)
abbrev mX11_turnsFirst : Mi := (yX11_turnsFirst, cX11_turnsFirst, 4, none)
abbrev mX11_fewestTurnings : Mi := (yX11_fewestTurnings, cX11_fewestTurnings, 6, (some .int))
abbrev mX11_turnings : Mi := (yX11_turnings, cX11_turnings, 5, (some .int))
abbrev mX11_folds : Mi := (yX11_folds, cX11_folds, 11, none)
abbrev mX11_strip : Mi := (yX11_strip, cX11_strip, 5, (some .int))
abbrev mX11_answer : Mi := (yX11_answer, cX11_answer, 2, (some .int))
abbrev mX11_boxes : Mi := (yX11_boxes, cX11_boxes, 5, (some .int))
abbrev mX11_piles : Mi := (yX11_piles, cX11_piles, 4, (some .int))
abbrev mX11_dealt : Mi := (yX11_dealt, cX11_dealt, 2, (some .int))
abbrev mX11_key : Mi := (yX11_key, cX11_key, 2, (some .int))
abbrev mX11_looksFor : Mi := (yX11_looksFor, cX11_looksFor, 5, (some .int))
abbrev mX11_table : Mi := (yX11_table, cX11_table, 6, (some .int))
abbrev mX11_ask : Mi := (yX11_ask, cX11_ask, 2, (some .int))
abbrev mX11_askedWhen : Mi := (yX11_askedWhen, cX11_askedWhen, 5, (some .int))
abbrev mX11_goesOut : Mi := (yX11_goesOut, cX11_goesOut, 7, (some .int))
abbrev mX11_pages : Mi := (yX11_pages, cX11_pages, 6, (some .int))
abbrev mX11_casesOf : Mi := (yX11_casesOf, cX11_casesOf, 7, (some .int))
abbrev mX11_isSide : Mi := (yX11_isSide, cX11_isSide, 5, (some .boolean))
abbrev mX11_truth : Mi := (yX11_truth, cX11_truth, 8, (some .int))
abbrev mX11_meetsOf : Mi := (yX11_meetsOf, cX11_meetsOf, 5, (some .int))
abbrev mX11_rounds : Mi := (yX11_rounds, cX11_rounds, 6, (some .int))
abbrev mX11_meets : Mi := (yX11_meets, cX11_meets, 6, (some .int))
abbrev mX11_rows : Mi := (yX11_rows, cX11_rows, 6, (some .int))
abbrev mX11_digit : Mi := (yX11_digit, cX11_digit, 2, (some .int))
abbrev mX11_choicesOf : Mi := (yX11_choicesOf, cX11_choicesOf, 2, (some .int))
abbrev mX11_waysFrom : Mi := (yX11_waysFrom, cX11_waysFrom, 4, (some .int))
abbrev mX11_spelt : Mi := (yX11_spelt, cX11_spelt, 3, (some .int))
abbrev mX11_areThree : Mi := (yX11_areThree, cX11_areThree, 2, (some .boolean))
abbrev mX11_goodFilling : Mi := (yX11_goodFilling, cX11_goodFilling, 5, (some .int))
abbrev mX11_game : Mi := (yX11_game, cX11_game, 5, (some .int))
abbrev mX11_keeps : Mi := (yX11_keeps, cX11_keeps, 2, (some .int))
abbrev mX11_keepsLaw : Mi := (yX11_keepsLaw, cX11_keepsLaw, 2, none)
abbrev mX11_keepsTold : Mi := (yX11_keepsTold, cX11_keepsTold, 2, none)
abbrev mX11_image : Mi := (yX11_image, cX11_image, 3, (some .boolean))
abbrev mX11_setThatIs : Mi := (yX11_setThatIs, cX11_setThatIs, 4, (some .int))
abbrev mX11_look : Mi := (yX11_look, cX11_look, 2, (some .int))
abbrev mJ6_bitCount_0f7a4 : Mi := (yJ6_bitCount_0f7a4, cJ6_bitCount_0f7a4, 1, (some .int))
abbrev mJ9_floorMod_7cf53 : Mi := (yJ9_floorMod_7cf53, cJ9_floorMod_7cf53, 3, (some .int))
abbrev mJ9_abs_0f7a4 : Mi := (yJ9_abs_0f7a4, cJ9_abs_0f7a4, 1, (some .int))
abbrev mJ9_max_7cf53 : Mi := (yJ9_max_7cf53, cJ9_max_7cf53, 2, (some .int))
abbrev mJ9_min_7cf53 : Mi := (yJ9_min_7cf53, cJ9_min_7cf53, 2, (some .int))
abbrev mJ0_length_8abf5 : Mi := (yJ0_length_8abf5, cJ0_length_8abf5, 1, (some .int))
abbrev mJ0_charAt_5068e : Mi := (yJ0_charAt_5068e, cJ0_charAt_5068e, 2, (some .char))
abbrev mJ0_coder_7d493 : Mi := (yJ0_coder_7d493, cJ0_coder_7d493, 1, (some .byte))
abbrev mJ0_isLatin1_aae02 : Mi := (yJ0_isLatin1_aae02, cJ0_isLatin1_aae02, 1, (some .boolean))
abbrev mJ0_checkIndex_df160 : Mi := (yJ0_checkIndex_df160, cJ0_checkIndex_df160, 2, none)
abbrev mJ1_charAt_3b067 : Mi := (yJ1_charAt_3b067, cJ1_charAt_3b067, 2, (some .char))
abbrev mJ2_getChar_3b067 : Mi := (yJ2_getChar_3b067, cJ2_getChar_3b067, 2, (some .char))
abbrev mJ2_length_9d52b : Mi := (yJ2_length_9d52b, cJ2_length_9d52b, 1, (some .int))
abbrev mJ2_charAt_3b067 : Mi := (yJ2_charAt_3b067, cJ2_charAt_3b067, 2, (some .char))
abbrev mJ2_checkIndex_2214a : Mi := (yJ2_checkIndex_2214a, cJ2_checkIndex_2214a, 2, none)
abbrev mJ7_fill_53178 : Mi := (yJ7_fill_53178, cJ7_fill_53178, 4, none)
abbrev mJ3_checkIndex_8e157 : Mi := (yJ3_checkIndex_8e157, cJ3_checkIndex_8e157, 3, (some .int))
theorem mo_X0_copy : MOk mX0_copy 1 := ⟨tb_in (i := 1182) (by decide +kernel) rfl, tb_in (i := 124) (by decide +kernel) rfl, ⟨by decide, by decide⟩, by decide +kernel⟩
theorem mv_X0_copy : MVk mX0_copy := ⟨tb_in (i := 1180) (by decide +kernel) rfl, tb_in (i := 1181) (by decide +kernel) rfl⟩
theorem mo_X0_read : MOk mX0_read 2 := ⟨tb_in (i := 929) (by decide +kernel) rfl, tb_in (i := 124) (by decide +kernel) rfl, ⟨by decide, by decide⟩, by decide +kernel⟩
theorem mv_X0_read : MVk mX0_read := ⟨tb_in (i := 927) (by decide +kernel) rfl, tb_in (i := 928) (by decide +kernel) rfl⟩
theorem mo_X0_write : MOk mX0_write 4 := ⟨tb_in (i := 660) (by decide +kernel) rfl, tb_in (i := 124) (by decide +kernel) rfl, ⟨by decide, by decide⟩, by decide +kernel⟩
theorem mv_X0_write : MVk mX0_write := ⟨tb_in (i := 658) (by decide +kernel) rfl, tb_in (i := 659) (by decide +kernel) rfl⟩
theorem mo_X1_copy : MOk mX1_copy 1 := ⟨tb_in (i := 1177) (by decide +kernel) rfl, tb_in (i := 122) (by decide +kernel) rfl, ⟨by decide, by decide⟩, by decide +kernel⟩
theorem mv_X1_copy : MVk mX1_copy := ⟨tb_in (i := 1175) (by decide +kernel) rfl, tb_in (i := 1176) (by decide +kernel) rfl⟩
theorem mo_X1_askLaw : MOk mX1_askLaw 4 := ⟨tb_in (i := 606) (by decide +kernel) rfl, tb_in (i := 122) (by decide +kernel) rfl, ⟨by decide, by decide⟩, by decide +kernel⟩
theorem mv_X1_askLaw : MVk mX1_askLaw := ⟨tb_in (i := 604) (by decide +kernel) rfl, tb_in (i := 605) (by decide +kernel) rfl⟩
theorem mo_X1_see : MOk mX1_see 3 := ⟨tb_in (i := 612) (by decide +kernel) rfl, tb_in (i := 122) (by decide +kernel) rfl, ⟨by decide, by decide⟩, by decide +kernel⟩
theorem mv_X1_see : MVk mX1_see := ⟨tb_in (i := 611) (by decide +kernel) rfl, tb_in (i := 3) (by decide +kernel) rfl⟩
theorem mo_X1_customary : MOk mX1_customary 1 := ⟨tb_in (i := 640) (by decide +kernel) rfl, tb_in (i := 122) (by decide +kernel) rfl, ⟨by decide, by decide⟩, by decide +kernel⟩
theorem mv_X1_customary : MVk mX1_customary := ⟨tb_in (i := 639) (by decide +kernel) rfl, tb_in (i := 5) (by decide +kernel) rfl⟩
theorem mo_X1_held : MOk mX1_held 3 := ⟨tb_in (i := 648) (by decide +kernel) rfl, tb_in (i := 122) (by decide +kernel) rfl, ⟨by decide, by decide⟩, by decide +kernel⟩
theorem ms_X1_held : Cond.static (mY mX1_held) ∈ tb := tb_in (i := 647) (by decide +kernel) rfl
theorem mo_X1_doDeed : MOk mX1_doDeed 4 := ⟨tb_in (i := 597) (by decide +kernel) rfl, tb_in (i := 122) (by decide +kernel) rfl, ⟨by decide, by decide⟩, by decide +kernel⟩
theorem mv_X1_doDeed : MVk mX1_doDeed := ⟨tb_in (i := 595) (by decide +kernel) rfl, tb_in (i := 596) (by decide +kernel) rfl⟩
theorem mo_X1_tie : MOk mX1_tie 3 := ⟨tb_in (i := 602) (by decide +kernel) rfl, tb_in (i := 122) (by decide +kernel) rfl, ⟨by decide, by decide⟩, by decide +kernel⟩
theorem mv_X1_tie : MVk mX1_tie := ⟨tb_in (i := 601) (by decide +kernel) rfl, tb_in (i := 2) (by decide +kernel) rfl⟩
theorem mo_X1_wash : MOk mX1_wash 2 := ⟨tb_in (i := 665) (by decide +kernel) rfl, tb_in (i := 122) (by decide +kernel) rfl, ⟨by decide, by decide⟩, by decide +kernel⟩
theorem mv_X1_wash : MVk mX1_wash := ⟨tb_in (i := 664) (by decide +kernel) rfl, tb_in (i := 6) (by decide +kernel) rfl⟩
theorem mo_X1_pull : MOk mX1_pull 2 := ⟨tb_in (i := 687) (by decide +kernel) rfl, tb_in (i := 122) (by decide +kernel) rfl, ⟨by decide, by decide⟩, by decide +kernel⟩
theorem mv_X1_pull : MVk mX1_pull := ⟨tb_in (i := 686) (by decide +kernel) rfl, tb_in (i := 8) (by decide +kernel) rfl⟩
theorem mo_X1_passDay : MOk mX1_passDay 1 := ⟨tb_in (i := 695) (by decide +kernel) rfl, tb_in (i := 122) (by decide +kernel) rfl, ⟨by decide, by decide⟩, by decide +kernel⟩
theorem mv_X1_passDay : MVk mX1_passDay := ⟨tb_in (i := 693) (by decide +kernel) rfl, tb_in (i := 694) (by decide +kernel) rfl⟩
theorem mo_X1_isTold : MOk mX1_isTold 2 := ⟨tb_in (i := 700) (by decide +kernel) rfl, tb_in (i := 122) (by decide +kernel) rfl, ⟨by decide, by decide⟩, by decide +kernel⟩
theorem mv_X1_isTold : MVk mX1_isTold := ⟨tb_in (i := 699) (by decide +kernel) rfl, tb_in (i := 9) (by decide +kernel) rfl⟩
theorem mo_X1_settle : MOk mX1_settle 3 := ⟨tb_in (i := 708) (by decide +kernel) rfl, tb_in (i := 122) (by decide +kernel) rfl, ⟨by decide, by decide⟩, by decide +kernel⟩
theorem mv_X1_settle : MVk mX1_settle := ⟨tb_in (i := 707) (by decide +kernel) rfl, tb_in (i := 10) (by decide +kernel) rfl⟩
theorem mo_X2_copy : MOk mX2_copy 1 := ⟨tb_in (i := 843) (by decide +kernel) rfl, tb_in (i := 125) (by decide +kernel) rfl, ⟨by decide, by decide⟩, by decide +kernel⟩
theorem mv_X2_copy : MVk mX2_copy := ⟨tb_in (i := 841) (by decide +kernel) rfl, tb_in (i := 842) (by decide +kernel) rfl⟩
theorem mo_X2_empty : MOk mX2_empty 0 := ⟨tb_in (i := 736) (by decide +kernel) rfl, tb_in (i := 125) (by decide +kernel) rfl, ⟨by decide, by decide⟩, by decide +kernel⟩
theorem mv_X2_empty : MVk mX2_empty := ⟨tb_in (i := 734) (by decide +kernel) rfl, tb_in (i := 735) (by decide +kernel) rfl⟩
theorem mo_X2_put : MOk mX2_put 1 := ⟨tb_in (i := 822) (by decide +kernel) rfl, tb_in (i := 125) (by decide +kernel) rfl, ⟨by decide, by decide⟩, by decide +kernel⟩
theorem mv_X2_put : MVk mX2_put := ⟨tb_in (i := 820) (by decide +kernel) rfl, tb_in (i := 821) (by decide +kernel) rfl⟩
theorem mo_X2_addLine : MOk mX2_addLine 3 := ⟨tb_in (i := 839) (by decide +kernel) rfl, tb_in (i := 125) (by decide +kernel) rfl, ⟨by decide, by decide⟩, by decide +kernel⟩
theorem mv_X2_addLine : MVk mX2_addLine := ⟨tb_in (i := 837) (by decide +kernel) rfl, tb_in (i := 838) (by decide +kernel) rfl⟩
theorem mo_X2_lineFor : MOk mX2_lineFor 2 := ⟨tb_in (i := 631) (by decide +kernel) rfl, tb_in (i := 125) (by decide +kernel) rfl, ⟨by decide, by decide⟩, by decide +kernel⟩
theorem mv_X2_lineFor : MVk mX2_lineFor := ⟨tb_in (i := 629) (by decide +kernel) rfl, tb_in (i := 630) (by decide +kernel) rfl⟩
theorem mo_X2_told : MOk mX2_told 2 := ⟨tb_in (i := 644) (by decide +kernel) rfl, tb_in (i := 125) (by decide +kernel) rfl, ⟨by decide, by decide⟩, by decide +kernel⟩
theorem mv_X2_told : MVk mX2_told := ⟨tb_in (i := 642) (by decide +kernel) rfl, tb_in (i := 643) (by decide +kernel) rfl⟩
theorem mo_X2_worth : MOk mX2_worth 3 := ⟨tb_in (i := 635) (by decide +kernel) rfl, tb_in (i := 125) (by decide +kernel) rfl, ⟨by decide, by decide⟩, by decide +kernel⟩
theorem mv_X2_worth : MVk mX2_worth := ⟨tb_in (i := 634) (by decide +kernel) rfl, tb_in (i := 4) (by decide +kernel) rfl⟩
theorem mo_X3_readLaw : MOk mX3_readLaw 1 := ⟨tb_in (i := 732) (by decide +kernel) rfl, tb_in (i := 130) (by decide +kernel) rfl, ⟨by decide, by decide⟩, by decide +kernel⟩
theorem mv_X3_readLaw : MVk mX3_readLaw := ⟨tb_in (i := 730) (by decide +kernel) rfl, tb_in (i := 731) (by decide +kernel) rfl⟩
theorem mo_X3_readCondition : MOk mX3_readCondition 2 := ⟨tb_in (i := 826) (by decide +kernel) rfl, tb_in (i := 130) (by decide +kernel) rfl, ⟨by decide, by decide⟩, by decide +kernel⟩
theorem mv_X3_readCondition : MVk mX3_readCondition := ⟨tb_in (i := 825) (by decide +kernel) rfl, tb_in (i := 14) (by decide +kernel) rfl⟩
theorem mo_X3_readClaim : MOk mX3_readClaim 2 := ⟨tb_in (i := 830) (by decide +kernel) rfl, tb_in (i := 130) (by decide +kernel) rfl, ⟨by decide, by decide⟩, by decide +kernel⟩
theorem mv_X3_readClaim : MVk mX3_readClaim := ⟨tb_in (i := 829) (by decide +kernel) rfl, tb_in (i := 15) (by decide +kernel) rfl⟩
theorem mo_X3_readSum : MOk mX3_readSum 1 := ⟨tb_in (i := 808) (by decide +kernel) rfl, tb_in (i := 130) (by decide +kernel) rfl, ⟨by decide, by decide⟩, by decide +kernel⟩
theorem mv_X3_readSum : MVk mX3_readSum := ⟨tb_in (i := 807) (by decide +kernel) rfl, tb_in (i := 12) (by decide +kernel) rfl⟩
theorem mo_X3_readProduct : MOk mX3_readProduct 1 := ⟨tb_in (i := 812) (by decide +kernel) rfl, tb_in (i := 130) (by decide +kernel) rfl, ⟨by decide, by decide⟩, by decide +kernel⟩
theorem mv_X3_readProduct : MVk mX3_readProduct := ⟨tb_in (i := 811) (by decide +kernel) rfl, tb_in (i := 13) (by decide +kernel) rfl⟩
theorem mo_X4_readLines : MOk mX4_readLines 3 := ⟨tb_in (i := 848) (by decide +kernel) rfl, tb_in (i := 131) (by decide +kernel) rfl, ⟨by decide, by decide⟩, by decide +kernel⟩
theorem mv_X4_readLines : MVk mX4_readLines := ⟨tb_in (i := 846) (by decide +kernel) rfl, tb_in (i := 847) (by decide +kernel) rfl⟩
theorem mo_X4_readLine : MOk mX4_readLine 3 := ⟨tb_in (i := 853) (by decide +kernel) rfl, tb_in (i := 131) (by decide +kernel) rfl, ⟨by decide, by decide⟩, by decide +kernel⟩
theorem mv_X4_readLine : MVk mX4_readLine := ⟨tb_in (i := 852) (by decide +kernel) rfl, tb_in (i := 16) (by decide +kernel) rfl⟩
theorem mo_X4_takeNumber : MOk mX4_takeNumber 2 := ⟨tb_in (i := 862) (by decide +kernel) rfl, tb_in (i := 131) (by decide +kernel) rfl, ⟨by decide, by decide⟩, by decide +kernel⟩
theorem mv_X4_takeNumber : MVk mX4_takeNumber := ⟨tb_in (i := 861) (by decide +kernel) rfl, tb_in (i := 18) (by decide +kernel) rfl⟩
theorem mo_X4_readDeed : MOk mX4_readDeed 3 := ⟨tb_in (i := 872) (by decide +kernel) rfl, tb_in (i := 131) (by decide +kernel) rfl, ⟨by decide, by decide⟩, by decide +kernel⟩
theorem mv_X4_readDeed : MVk mX4_readDeed := ⟨tb_in (i := 871) (by decide +kernel) rfl, tb_in (i := 19) (by decide +kernel) rfl⟩
theorem mo_X4_readMind : MOk mX4_readMind 3 := ⟨tb_in (i := 877) (by decide +kernel) rfl, tb_in (i := 131) (by decide +kernel) rfl, ⟨by decide, by decide⟩, by decide +kernel⟩
theorem mv_X4_readMind : MVk mX4_readMind := ⟨tb_in (i := 876) (by decide +kernel) rfl, tb_in (i := 20) (by decide +kernel) rfl⟩
theorem mo_X4_readFriends : MOk mX4_readFriends 2 := ⟨tb_in (i := 858) (by decide +kernel) rfl, tb_in (i := 131) (by decide +kernel) rfl, ⟨by decide, by decide⟩, by decide +kernel⟩
theorem mv_X4_readFriends : MVk mX4_readFriends := ⟨tb_in (i := 857) (by decide +kernel) rfl, tb_in (i := 17) (by decide +kernel) rfl⟩
theorem mo_X5_copy : MOk mX5_copy 1 := ⟨tb_in (i := 885) (by decide +kernel) rfl, tb_in (i := 126) (by decide +kernel) rfl, ⟨by decide, by decide⟩, by decide +kernel⟩
theorem mv_X5_copy : MVk mX5_copy := ⟨tb_in (i := 883) (by decide +kernel) rfl, tb_in (i := 884) (by decide +kernel) rfl⟩
theorem mo_X5_add : MOk mX5_add 4 := ⟨tb_in (i := 868) (by decide +kernel) rfl, tb_in (i := 126) (by decide +kernel) rfl, ⟨by decide, by decide⟩, by decide +kernel⟩
theorem mv_X5_add : MVk mX5_add := ⟨tb_in (i := 866) (by decide +kernel) rfl, tb_in (i := 867) (by decide +kernel) rfl⟩
theorem mo_X5_friendsOf : MOk mX5_friendsOf 1 := ⟨tb_in (i := 617) (by decide +kernel) rfl, tb_in (i := 126) (by decide +kernel) rfl, ⟨by decide, by decide⟩, by decide +kernel⟩
theorem mv_X5_friendsOf : MVk mX5_friendsOf := ⟨tb_in (i := 615) (by decide +kernel) rfl, tb_in (i := 616) (by decide +kernel) rfl⟩
theorem mo_X6_strandEnd : MOk mX6_strandEnd 2 := ⟨tb_in (i := 971) (by decide +kernel) rfl, tb_in (i := 132) (by decide +kernel) rfl, ⟨by decide, by decide⟩, by decide +kernel⟩
theorem ms_X6_strandEnd : Cond.static (mY mX6_strandEnd) ∈ tb := tb_in (i := 970) (by decide +kernel) rfl
theorem mo_X6_crossingsLeft : MOk mX6_crossingsLeft 1 := ⟨tb_in (i := 964) (by decide +kernel) rfl, tb_in (i := 132) (by decide +kernel) rfl, ⟨by decide, by decide⟩, by decide +kernel⟩
theorem mv_X6_crossingsLeft : MVk mX6_crossingsLeft := ⟨tb_in (i := 962) (by decide +kernel) rfl, tb_in (i := 963) (by decide +kernel) rfl⟩
theorem mo_X6_layRow : MOk mX6_layRow 1 := ⟨tb_in (i := 982) (by decide +kernel) rfl, tb_in (i := 132) (by decide +kernel) rfl, ⟨by decide, by decide⟩, by decide +kernel⟩
theorem mv_X6_layRow : MVk mX6_layRow := ⟨tb_in (i := 980) (by decide +kernel) rfl, tb_in (i := 981) (by decide +kernel) rfl⟩
theorem mo_X6_strangeCouples : MOk mX6_strangeCouples 0 := ⟨tb_in (i := 994) (by decide +kernel) rfl, tb_in (i := 132) (by decide +kernel) rfl, ⟨by decide, by decide⟩, by decide +kernel⟩
theorem mv_X6_strangeCouples : MVk mX6_strangeCouples := ⟨tb_in (i := 992) (by decide +kernel) rfl, tb_in (i := 993) (by decide +kernel) rfl⟩
theorem mo_X6_fewestTurnings : MOk mX6_fewestTurnings 0 := ⟨tb_in (i := 986) (by decide +kernel) rfl, tb_in (i := 132) (by decide +kernel) rfl, ⟨by decide, by decide⟩, by decide +kernel⟩
theorem mv_X6_fewestTurnings : MVk mX6_fewestTurnings := ⟨tb_in (i := 984) (by decide +kernel) rfl, tb_in (i := 985) (by decide +kernel) rfl⟩
theorem mo_X6_isInOrderBy : MOk mX6_isInOrderBy 1 := ⟨tb_in (i := 990) (by decide +kernel) rfl, tb_in (i := 132) (by decide +kernel) rfl, ⟨by decide, by decide⟩, by decide +kernel⟩
theorem mv_X6_isInOrderBy : MVk mX6_isInOrderBy := ⟨tb_in (i := 989) (by decide +kernel) rfl, tb_in (i := 23) (by decide +kernel) rfl⟩
theorem mo_X6_turn : MOk mX6_turn 1 := ⟨tb_in (i := 998) (by decide +kernel) rfl, tb_in (i := 132) (by decide +kernel) rfl, ⟨by decide, by decide⟩, by decide +kernel⟩
theorem mv_X6_turn : MVk mX6_turn := ⟨tb_in (i := 997) (by decide +kernel) rfl, tb_in (i := 24) (by decide +kernel) rfl⟩
theorem mo_X6_cellAt : MOk mX6_cellAt 3 := ⟨tb_in (i := 1006) (by decide +kernel) rfl, tb_in (i := 132) (by decide +kernel) rfl, ⟨by decide, by decide⟩, by decide +kernel⟩
theorem ms_X6_cellAt : Cond.static (mY mX6_cellAt) ∈ tb := tb_in (i := 1005) (by decide +kernel) rfl
theorem mo_X6_folded : MOk mX6_folded 3 := ⟨tb_in (i := 1009) (by decide +kernel) rfl, tb_in (i := 132) (by decide +kernel) rfl, ⟨by decide, by decide⟩, by decide +kernel⟩
theorem ms_X6_folded : Cond.static (mY mX6_folded) ∈ tb := tb_in (i := 1008) (by decide +kernel) rfl
theorem mo_X6_boxAfter : MOk mX6_boxAfter 2 := ⟨tb_in (i := 1021) (by decide +kernel) rfl, tb_in (i := 132) (by decide +kernel) rfl, ⟨by decide, by decide⟩, by decide +kernel⟩
theorem ms_X6_boxAfter : Cond.static (mY mX6_boxAfter) ∈ tb := tb_in (i := 1020) (by decide +kernel) rfl
theorem mo_X6_nextAsked : MOk mX6_nextAsked 1 := ⟨tb_in (i := 1025) (by decide +kernel) rfl, tb_in (i := 132) (by decide +kernel) rfl, ⟨by decide, by decide⟩, by decide +kernel⟩
theorem ms_X6_nextAsked : Cond.static (mY mX6_nextAsked) ∈ tb := tb_in (i := 1024) (by decide +kernel) rfl
theorem mo_X6_dealtTo : MOk mX6_dealtTo 2 := ⟨tb_in (i := 1033) (by decide +kernel) rfl, tb_in (i := 132) (by decide +kernel) rfl, ⟨by decide, by decide⟩, by decide +kernel⟩
theorem ms_X6_dealtTo : Cond.static (mY mX6_dealtTo) ∈ tb := tb_in (i := 1032) (by decide +kernel) rfl
theorem mo_X6_layTable : MOk mX6_layTable 2 := ⟨tb_in (i := 1050) (by decide +kernel) rfl, tb_in (i := 132) (by decide +kernel) rfl, ⟨by decide, by decide⟩, by decide +kernel⟩
theorem mv_X6_layTable : MVk mX6_layTable := ⟨tb_in (i := 1048) (by decide +kernel) rfl, tb_in (i := 1049) (by decide +kernel) rfl⟩
theorem mo_X6_looksFor : MOk mX6_looksFor 2 := ⟨tb_in (i := 1057) (by decide +kernel) rfl, tb_in (i := 132) (by decide +kernel) rfl, ⟨by decide, by decide⟩, by decide +kernel⟩
theorem mv_X6_looksFor : MVk mX6_looksFor := ⟨tb_in (i := 1055) (by decide +kernel) rfl, tb_in (i := 1056) (by decide +kernel) rfl⟩
theorem mo_X6_lastLookFound : MOk mX6_lastLookFound 3 := ⟨tb_in (i := 1069) (by decide +kernel) rfl, tb_in (i := 132) (by decide +kernel) rfl, ⟨by decide, by decide⟩, by decide +kernel⟩
theorem mv_X6_lastLookFound : MVk mX6_lastLookFound := ⟨tb_in (i := 1067) (by decide +kernel) rfl, tb_in (i := 1068) (by decide +kernel) rfl⟩
theorem mo_X6_placeBehind : MOk mX6_placeBehind 3 := ⟨tb_in (i := 1060) (by decide +kernel) rfl, tb_in (i := 132) (by decide +kernel) rfl, ⟨by decide, by decide⟩, by decide +kernel⟩
theorem ms_X6_placeBehind : Cond.static (mY mX6_placeBehind) ∈ tb := tb_in (i := 1059) (by decide +kernel) rfl
theorem mo_X6_isPlace : MOk mX6_isPlace 1 := ⟨tb_in (i := 1064) (by decide +kernel) rfl, tb_in (i := 132) (by decide +kernel) rfl, ⟨by decide, by decide⟩, by decide +kernel⟩
theorem mv_X6_isPlace : MVk mX6_isPlace := ⟨tb_in (i := 1063) (by decide +kernel) rfl, tb_in (i := 25) (by decide +kernel) rfl⟩
theorem mo_X6_misses : MOk mX6_misses 3 := ⟨tb_in (i := 1080) (by decide +kernel) rfl, tb_in (i := 132) (by decide +kernel) rfl, ⟨by decide, by decide⟩, by decide +kernel⟩
theorem ms_X6_misses : Cond.static (mY mX6_misses) ∈ tb := tb_in (i := 1079) (by decide +kernel) rfl
theorem mo_X6_whichGoes : MOk mX6_whichGoes 4 := ⟨tb_in (i := 1084) (by decide +kernel) rfl, tb_in (i := 132) (by decide +kernel) rfl, ⟨by decide, by decide⟩, by decide +kernel⟩
theorem ms_X6_whichGoes : Cond.static (mY mX6_whichGoes) ∈ tb := tb_in (i := 1083) (by decide +kernel) rfl
theorem mo_X6_stepsTo : MOk mX6_stepsTo 4 := ⟨tb_in (i := 1087) (by decide +kernel) rfl, tb_in (i := 132) (by decide +kernel) rfl, ⟨by decide, by decide⟩, by decide +kernel⟩
theorem ms_X6_stepsTo : Cond.static (mY mX6_stepsTo) ∈ tb := tb_in (i := 1086) (by decide +kernel) rfl
theorem mo_X6_sidesWith : MOk mX6_sidesWith 2 := ⟨tb_in (i := 1095) (by decide +kernel) rfl, tb_in (i := 132) (by decide +kernel) rfl, ⟨by decide, by decide⟩, by decide +kernel⟩
theorem ms_X6_sidesWith : Cond.static (mY mX6_sidesWith) ∈ tb := tb_in (i := 1094) (by decide +kernel) rfl
theorem mo_X6_casesOfOneSide : MOk mX6_casesOfOneSide 1 := ⟨tb_in (i := 1107) (by decide +kernel) rfl, tb_in (i := 132) (by decide +kernel) rfl, ⟨by decide, by decide⟩, by decide +kernel⟩
theorem ms_X6_casesOfOneSide : Cond.static (mY mX6_casesOfOneSide) ∈ tb := tb_in (i := 1106) (by decide +kernel) rfl
theorem mo_X6_isSide : MOk mX6_isSide 3 := ⟨tb_in (i := 1098) (by decide +kernel) rfl, tb_in (i := 132) (by decide +kernel) rfl, ⟨by decide, by decide⟩, by decide +kernel⟩
theorem ms_X6_isSide : Cond.static (mY mX6_isSide) ∈ tb := tb_in (i := 1097) (by decide +kernel) rfl
theorem mo_X6_casesOf : MOk mX6_casesOf 2 := ⟨tb_in (i := 1101) (by decide +kernel) rfl, tb_in (i := 132) (by decide +kernel) rfl, ⟨by decide, by decide⟩, by decide +kernel⟩
theorem ms_X6_casesOf : Cond.static (mY mX6_casesOf) ∈ tb := tb_in (i := 1100) (by decide +kernel) rfl
theorem mo_X6_meetsInRound : MOk mX6_meetsInRound 3 := ⟨tb_in (i := 1114) (by decide +kernel) rfl, tb_in (i := 132) (by decide +kernel) rfl, ⟨by decide, by decide⟩, by decide +kernel⟩
theorem ms_X6_meetsInRound : Cond.static (mY mX6_meetsInRound) ∈ tb := tb_in (i := 1113) (by decide +kernel) rfl
theorem mo_X6_waysInRows : MOk mX6_waysInRows 2 := ⟨tb_in (i := 1128) (by decide +kernel) rfl, tb_in (i := 132) (by decide +kernel) rfl, ⟨by decide, by decide⟩, by decide +kernel⟩
theorem ms_X6_waysInRows : Cond.static (mY mX6_waysInRows) ∈ tb := tb_in (i := 1127) (by decide +kernel) rfl
theorem mo_X6_lettersOf : MOk mX6_lettersOf 1 := ⟨tb_in (i := 1143) (by decide +kernel) rfl, tb_in (i := 132) (by decide +kernel) rfl, ⟨by decide, by decide⟩, by decide +kernel⟩
theorem ms_X6_lettersOf : Cond.static (mY mX6_lettersOf) ∈ tb := tb_in (i := 1142) (by decide +kernel) rfl
theorem mo_X6_spellings : MOk mX6_spellings 2 := ⟨tb_in (i := 1139) (by decide +kernel) rfl, tb_in (i := 132) (by decide +kernel) rfl, ⟨by decide, by decide⟩, by decide +kernel⟩
theorem ms_X6_spellings : Cond.static (mY mX6_spellings) ∈ tb := tb_in (i := 1138) (by decide +kernel) rfl
theorem mo_X6_letterAt : MOk mX6_letterAt 3 := ⟨tb_in (i := 1146) (by decide +kernel) rfl, tb_in (i := 132) (by decide +kernel) rfl, ⟨by decide, by decide⟩, by decide +kernel⟩
theorem ms_X6_letterAt : Cond.static (mY mX6_letterAt) ∈ tb := tb_in (i := 1145) (by decide +kernel) rfl
theorem mo_X6_winningPlace : MOk mX6_winningPlace 2 := ⟨tb_in (i := 1154) (by decide +kernel) rfl, tb_in (i := 132) (by decide +kernel) rfl, ⟨by decide, by decide⟩, by decide +kernel⟩
theorem ms_X6_winningPlace : Cond.static (mY mX6_winningPlace) ∈ tb := tb_in (i := 1153) (by decide +kernel) rfl
theorem mo_X6_hasThree : MOk mX6_hasThree 1 := ⟨tb_in (i := 1157) (by decide +kernel) rfl, tb_in (i := 132) (by decide +kernel) rfl, ⟨by decide, by decide⟩, by decide +kernel⟩
theorem ms_X6_hasThree : Cond.static (mY mX6_hasThree) ∈ tb := tb_in (i := 1156) (by decide +kernel) rfl
theorem mo_X6_isSafe : MOk mX6_isSafe 2 := ⟨tb_in (i := 1160) (by decide +kernel) rfl, tb_in (i := 132) (by decide +kernel) rfl, ⟨by decide, by decide⟩, by decide +kernel⟩
theorem ms_X6_isSafe : Cond.static (mY mX6_isSafe) ∈ tb := tb_in (i := 1159) (by decide +kernel) rfl
theorem mo_X6_nimberLeft : MOk mX6_nimberLeft 2 := ⟨tb_in (i := 1163) (by decide +kernel) rfl, tb_in (i := 132) (by decide +kernel) rfl, ⟨by decide, by decide⟩, by decide +kernel⟩
theorem ms_X6_nimberLeft : Cond.static (mY mX6_nimberLeft) ∈ tb := tb_in (i := 1162) (by decide +kernel) rfl
theorem mo_X7_put : MOk mX7_put 1 := ⟨tb_in (i := 716) (by decide +kernel) rfl, tb_in (i := 129) (by decide +kernel) rfl, ⟨by decide, by decide⟩, by decide +kernel⟩
theorem mv_X7_put : MVk mX7_put := ⟨tb_in (i := 714) (by decide +kernel) rfl, tb_in (i := 715) (by decide +kernel) rfl⟩
theorem mo_X7_rewind : MOk mX7_rewind 0 := ⟨tb_in (i := 728) (by decide +kernel) rfl, tb_in (i := 129) (by decide +kernel) rfl, ⟨by decide, by decide⟩, by decide +kernel⟩
theorem mv_X7_rewind : MVk mX7_rewind := ⟨tb_in (i := 726) (by decide +kernel) rfl, tb_in (i := 727) (by decide +kernel) rfl⟩
theorem mo_X7_next : MOk mX7_next 0 := ⟨tb_in (i := 740) (by decide +kernel) rfl, tb_in (i := 129) (by decide +kernel) rfl, ⟨by decide, by decide⟩, by decide +kernel⟩
theorem mv_X7_next : MVk mX7_next := ⟨tb_in (i := 738) (by decide +kernel) rfl, tb_in (i := 739) (by decide +kernel) rfl⟩
theorem mo_X7_isLetter : MOk mX7_isLetter 1 := ⟨tb_in (i := 746) (by decide +kernel) rfl, tb_in (i := 129) (by decide +kernel) rfl, ⟨by decide, by decide⟩, by decide +kernel⟩
theorem ms_X7_isLetter : Cond.static (mY mX7_isLetter) ∈ tb := tb_in (i := 745) (by decide +kernel) rfl
theorem mo_X7_isDigit : MOk mX7_isDigit 1 := ⟨tb_in (i := 743) (by decide +kernel) rfl, tb_in (i := 129) (by decide +kernel) rfl, ⟨by decide, by decide⟩, by decide +kernel⟩
theorem ms_X7_isDigit : Cond.static (mY mX7_isDigit) ∈ tb := tb_in (i := 742) (by decide +kernel) rfl
theorem mo_X7_keyword : MOk mX7_keyword 0 := ⟨tb_in (i := 750) (by decide +kernel) rfl, tb_in (i := 129) (by decide +kernel) rfl, ⟨by decide, by decide⟩, by decide +kernel⟩
theorem mv_X7_keyword : MVk mX7_keyword := ⟨tb_in (i := 749) (by decide +kernel) rfl, tb_in (i := 11) (by decide +kernel) rfl⟩
theorem mo_X7_refuse : MOk mX7_refuse 1 := ⟨tb_in (i := 804) (by decide +kernel) rfl, tb_in (i := 129) (by decide +kernel) rfl, ⟨by decide, by decide⟩, by decide +kernel⟩
theorem mv_X7_refuse : MVk mX7_refuse := ⟨tb_in (i := 802) (by decide +kernel) rfl, tb_in (i := 803) (by decide +kernel) rfl⟩
theorem mo_X7_take : MOk mX7_take 1 := ⟨tb_in (i := 834) (by decide +kernel) rfl, tb_in (i := 129) (by decide +kernel) rfl, ⟨by decide, by decide⟩, by decide +kernel⟩
theorem mv_X7_take : MVk mX7_take := ⟨tb_in (i := 832) (by decide +kernel) rfl, tb_in (i := 833) (by decide +kernel) rfl⟩
theorem mo_X7_isNumber : MOk mX7_isNumber 2 := ⟨tb_in (i := 816) (by decide +kernel) rfl, tb_in (i := 129) (by decide +kernel) rfl, ⟨by decide, by decide⟩, by decide +kernel⟩
theorem mv_X7_isNumber : MVk mX7_isNumber := ⟨tb_in (i := 814) (by decide +kernel) rfl, tb_in (i := 815) (by decide +kernel) rfl⟩
theorem mo_X8_copy : MOk mX8_copy 1 := ⟨tb_in (i := 1189) (by decide +kernel) rfl, tb_in (i := 127) (by decide +kernel) rfl, ⟨by decide, by decide⟩, by decide +kernel⟩
theorem mv_X8_copy : MVk mX8_copy := ⟨tb_in (i := 1187) (by decide +kernel) rfl, tb_in (i := 1188) (by decide +kernel) rfl⟩
theorem mo_X8_empty : MOk mX8_empty 0 := ⟨tb_in (i := 952) (by decide +kernel) rfl, tb_in (i := 127) (by decide +kernel) rfl, ⟨by decide, by decide⟩, by decide +kernel⟩
theorem mv_X8_empty : MVk mX8_empty := ⟨tb_in (i := 950) (by decide +kernel) rfl, tb_in (i := 951) (by decide +kernel) rfl⟩
theorem mo_X8_tell : MOk mX8_tell 1 := ⟨tb_in (i := 956) (by decide +kernel) rfl, tb_in (i := 127) (by decide +kernel) rfl, ⟨by decide, by decide⟩, by decide +kernel⟩
theorem mv_X8_tell : MVk mX8_tell := ⟨tb_in (i := 954) (by decide +kernel) rfl, tb_in (i := 955) (by decide +kernel) rfl⟩
theorem mo_X8_get : MOk mX8_get 1 := ⟨tb_in (i := 968) (by decide +kernel) rfl, tb_in (i := 127) (by decide +kernel) rfl, ⟨by decide, by decide⟩, by decide +kernel⟩
theorem mv_X8_get : MVk mX8_get := ⟨tb_in (i := 966) (by decide +kernel) rfl, tb_in (i := 967) (by decide +kernel) rfl⟩
theorem mo_X9_copy : MOk mX9_copy 1 := ⟨tb_in (i := 590) (by decide +kernel) rfl, tb_in (i := 123) (by decide +kernel) rfl, ⟨by decide, by decide⟩, by decide +kernel⟩
theorem mv_X9_copy : MVk mX9_copy := ⟨tb_in (i := 588) (by decide +kernel) rfl, tb_in (i := 589) (by decide +kernel) rfl⟩
theorem mo_X9_hasPerson : MOk mX9_hasPerson 1 := ⟨tb_in (i := 545) (by decide +kernel) rfl, tb_in (i := 123) (by decide +kernel) rfl, ⟨by decide, by decide⟩, by decide +kernel⟩
theorem mv_X9_hasPerson : MVk mX9_hasPerson := ⟨tb_in (i := 543) (by decide +kernel) rfl, tb_in (i := 544) (by decide +kernel) rfl⟩
theorem mo_X9_hasCloth : MOk mX9_hasCloth 1 := ⟨tb_in (i := 566) (by decide +kernel) rfl, tb_in (i := 123) (by decide +kernel) rfl, ⟨by decide, by decide⟩, by decide +kernel⟩
theorem mv_X9_hasCloth : MVk mX9_hasCloth := ⟨tb_in (i := 564) (by decide +kernel) rfl, tb_in (i := 565) (by decide +kernel) rfl⟩
theorem mo_X9_hasThing : MOk mX9_hasThing 1 := ⟨tb_in (i := 574) (by decide +kernel) rfl, tb_in (i := 123) (by decide +kernel) rfl, ⟨by decide, by decide⟩, by decide +kernel⟩
theorem mv_X9_hasThing : MVk mX9_hasThing := ⟨tb_in (i := 572) (by decide +kernel) rfl, tb_in (i := 573) (by decide +kernel) rfl⟩
theorem mo_X9_addPerson : MOk mX9_addPerson 1 := ⟨tb_in (i := 529) (by decide +kernel) rfl, tb_in (i := 123) (by decide +kernel) rfl, ⟨by decide, by decide⟩, by decide +kernel⟩
theorem mv_X9_addPerson : MVk mX9_addPerson := ⟨tb_in (i := 527) (by decide +kernel) rfl, tb_in (i := 528) (by decide +kernel) rfl⟩
theorem mo_X9_addCloth : MOk mX9_addCloth 1 := ⟨tb_in (i := 541) (by decide +kernel) rfl, tb_in (i := 123) (by decide +kernel) rfl, ⟨by decide, by decide⟩, by decide +kernel⟩
theorem mv_X9_addCloth : MVk mX9_addCloth := ⟨tb_in (i := 539) (by decide +kernel) rfl, tb_in (i := 540) (by decide +kernel) rfl⟩
theorem mo_X9_addThing : MOk mX9_addThing 2 := ⟨tb_in (i := 553) (by decide +kernel) rfl, tb_in (i := 123) (by decide +kernel) rfl, ⟨by decide, by decide⟩, by decide +kernel⟩
theorem mv_X9_addThing : MVk mX9_addThing := ⟨tb_in (i := 551) (by decide +kernel) rfl, tb_in (i := 552) (by decide +kernel) rfl⟩
theorem mo_X9_change : MOk mX9_change 3 := ⟨tb_in (i := 561) (by decide +kernel) rfl, tb_in (i := 123) (by decide +kernel) rfl, ⟨by decide, by decide⟩, by decide +kernel⟩
theorem mv_X9_change : MVk mX9_change := ⟨tb_in (i := 559) (by decide +kernel) rfl, tb_in (i := 560) (by decide +kernel) rfl⟩
theorem mo_X9_isOpen : MOk mX9_isOpen 1 := ⟨tb_in (i := 570) (by decide +kernel) rfl, tb_in (i := 123) (by decide +kernel) rfl, ⟨by decide, by decide⟩, by decide +kernel⟩
theorem mv_X9_isOpen : MVk mX9_isOpen := ⟨tb_in (i := 568) (by decide +kernel) rfl, tb_in (i := 569) (by decide +kernel) rfl⟩
theorem mo_X9_thingsThatAre : MOk mX9_thingsThatAre 1 := ⟨tb_in (i := 621) (by decide +kernel) rfl, tb_in (i := 123) (by decide +kernel) rfl, ⟨by decide, by decide⟩, by decide +kernel⟩
theorem mv_X9_thingsThatAre : MVk mX9_thingsThatAre := ⟨tb_in (i := 619) (by decide +kernel) rfl, tb_in (i := 620) (by decide +kernel) rfl⟩
theorem mo_X9_leftTo : MOk mX9_leftTo 1 := ⟨tb_in (i := 900) (by decide +kernel) rfl, tb_in (i := 123) (by decide +kernel) rfl, ⟨by decide, by decide⟩, by decide +kernel⟩
theorem mv_X9_leftTo : MVk mX9_leftTo := ⟨tb_in (i := 898) (by decide +kernel) rfl, tb_in (i := 899) (by decide +kernel) rfl⟩
theorem mo_X9_leastDueOf : MOk mX9_leastDueOf 1 := ⟨tb_in (i := 904) (by decide +kernel) rfl, tb_in (i := 123) (by decide +kernel) rfl, ⟨by decide, by decide⟩, by decide +kernel⟩
theorem mv_X9_leastDueOf : MVk mX9_leastDueOf := ⟨tb_in (i := 902) (by decide +kernel) rfl, tb_in (i := 903) (by decide +kernel) rfl⟩
theorem mo_X9_clothsWith : MOk mX9_clothsWith 1 := ⟨tb_in (i := 908) (by decide +kernel) rfl, tb_in (i := 123) (by decide +kernel) rfl, ⟨by decide, by decide⟩, by decide +kernel⟩
theorem mv_X9_clothsWith : MVk mX9_clothsWith := ⟨tb_in (i := 906) (by decide +kernel) rfl, tb_in (i := 907) (by decide +kernel) rfl⟩
theorem mo_X9_knotAt : MOk mX9_knotAt 2 := ⟨tb_in (i := 669) (by decide +kernel) rfl, tb_in (i := 123) (by decide +kernel) rfl, ⟨by decide, by decide⟩, by decide +kernel⟩
theorem mv_X9_knotAt : MVk mX9_knotAt := ⟨tb_in (i := 667) (by decide +kernel) rfl, tb_in (i := 668) (by decide +kernel) rfl⟩
theorem mo_X9_holderOf : MOk mX9_holderOf 1 := ⟨tb_in (i := 704) (by decide +kernel) rfl, tb_in (i := 123) (by decide +kernel) rfl, ⟨by decide, by decide⟩, by decide +kernel⟩
theorem mv_X9_holderOf : MVk mX9_holderOf := ⟨tb_in (i := 702) (by decide +kernel) rfl, tb_in (i := 703) (by decide +kernel) rfl⟩
theorem mo_X9_canDo : MOk mX9_canDo 3 := ⟨tb_in (i := 582) (by decide +kernel) rfl, tb_in (i := 123) (by decide +kernel) rfl, ⟨by decide, by decide⟩, by decide +kernel⟩
theorem mv_X9_canDo : MVk mX9_canDo := ⟨tb_in (i := 580) (by decide +kernel) rfl, tb_in (i := 581) (by decide +kernel) rfl⟩
theorem mo_X9_addKnot : MOk mX9_addKnot 3 := ⟨tb_in (i := 656) (by decide +kernel) rfl, tb_in (i := 123) (by decide +kernel) rfl, ⟨by decide, by decide⟩, by decide +kernel⟩
theorem mv_X9_addKnot : MVk mX9_addKnot := ⟨tb_in (i := 654) (by decide +kernel) rfl, tb_in (i := 655) (by decide +kernel) rfl⟩
theorem mo_X9_untie : MOk mX9_untie 1 := ⟨tb_in (i := 683) (by decide +kernel) rfl, tb_in (i := 123) (by decide +kernel) rfl, ⟨by decide, by decide⟩, by decide +kernel⟩
theorem mv_X9_untie : MVk mX9_untie := ⟨tb_in (i := 681) (by decide +kernel) rfl, tb_in (i := 682) (by decide +kernel) rfl⟩
theorem mo_X9_happens : MOk mX9_happens 1 := ⟨tb_in (i := 673) (by decide +kernel) rfl, tb_in (i := 123) (by decide +kernel) rfl, ⟨by decide, by decide⟩, by decide +kernel⟩
theorem mv_X9_happens : MVk mX9_happens := ⟨tb_in (i := 671) (by decide +kernel) rfl, tb_in (i := 672) (by decide +kernel) rfl⟩
theorem mo_X9_drawThousand : MOk mX9_drawThousand 0 := ⟨tb_in (i := 677) (by decide +kernel) rfl, tb_in (i := 123) (by decide +kernel) rfl, ⟨by decide, by decide⟩, by decide +kernel⟩
theorem mv_X9_drawThousand : MVk mX9_drawThousand := ⟨tb_in (i := 676) (by decide +kernel) rfl, tb_in (i := 7) (by decide +kernel) rfl⟩
theorem mo_X10_state : MOk mX10_state 1 := ⟨tb_in (i := 518) (by decide +kernel) rfl, tb_in (i := 121) (by decide +kernel) rfl, ⟨by decide, by decide⟩, by decide +kernel⟩
theorem mv_X10_state : MVk mX10_state := ⟨tb_in (i := 516) (by decide +kernel) rfl, tb_in (i := 517) (by decide +kernel) rfl⟩
theorem mo_X10_person : MOk mX10_person 1 := ⟨tb_in (i := 522) (by decide +kernel) rfl, tb_in (i := 121) (by decide +kernel) rfl, ⟨by decide, by decide⟩, by decide +kernel⟩
theorem mv_X10_person : MVk mX10_person := ⟨tb_in (i := 520) (by decide +kernel) rfl, tb_in (i := 521) (by decide +kernel) rfl⟩
theorem mo_X10_cloth : MOk mX10_cloth 1 := ⟨tb_in (i := 537) (by decide +kernel) rfl, tb_in (i := 121) (by decide +kernel) rfl, ⟨by decide, by decide⟩, by decide +kernel⟩
theorem mv_X10_cloth : MVk mX10_cloth := ⟨tb_in (i := 535) (by decide +kernel) rfl, tb_in (i := 536) (by decide +kernel) rfl⟩
theorem mo_X10_thing : MOk mX10_thing 2 := ⟨tb_in (i := 549) (by decide +kernel) rfl, tb_in (i := 121) (by decide +kernel) rfl, ⟨by decide, by decide⟩, by decide +kernel⟩
theorem mv_X10_thing : MVk mX10_thing := ⟨tb_in (i := 547) (by decide +kernel) rfl, tb_in (i := 548) (by decide +kernel) rfl⟩
theorem mo_X10_set : MOk mX10_set 3 := ⟨tb_in (i := 557) (by decide +kernel) rfl, tb_in (i := 121) (by decide +kernel) rfl, ⟨by decide, by decide⟩, by decide +kernel⟩
theorem mv_X10_set : MVk mX10_set := ⟨tb_in (i := 555) (by decide +kernel) rfl, tb_in (i := 556) (by decide +kernel) rfl⟩
theorem mo_X10_act : MOk mX10_act 3 := ⟨tb_in (i := 578) (by decide +kernel) rfl, tb_in (i := 121) (by decide +kernel) rfl, ⟨by decide, by decide⟩, by decide +kernel⟩
theorem mv_X10_act : MVk mX10_act := ⟨tb_in (i := 576) (by decide +kernel) rfl, tb_in (i := 577) (by decide +kernel) rfl⟩
theorem mo_X10_days : MOk mX10_days 1 := ⟨tb_in (i := 691) (by decide +kernel) rfl, tb_in (i := 121) (by decide +kernel) rfl, ⟨by decide, by decide⟩, by decide +kernel⟩
theorem mv_X10_days : MVk mX10_days := ⟨tb_in (i := 689) (by decide +kernel) rfl, tb_in (i := 690) (by decide +kernel) rfl⟩
theorem mo_X10_feed : MOk mX10_feed 5 := ⟨tb_in (i := 712) (by decide +kernel) rfl, tb_in (i := 121) (by decide +kernel) rfl, ⟨by decide, by decide⟩, by decide +kernel⟩
theorem mv_X10_feed : MVk mX10_feed := ⟨tb_in (i := 710) (by decide +kernel) rfl, tb_in (i := 711) (by decide +kernel) rfl⟩
theorem mo_X10_end : MOk mX10_end 1 := ⟨tb_in (i := 720) (by decide +kernel) rfl, tb_in (i := 121) (by decide +kernel) rfl, ⟨by decide, by decide⟩, by decide +kernel⟩
theorem mv_X10_end : MVk mX10_end := ⟨tb_in (i := 718) (by decide +kernel) rfl, tb_in (i := 719) (by decide +kernel) rfl⟩
theorem mo_X10_text : MOk mX10_text 1 := ⟨tb_in (i := 724) (by decide +kernel) rfl, tb_in (i := 121) (by decide +kernel) rfl, ⟨by decide, by decide⟩, by decide +kernel⟩
theorem mv_X10_text : MVk mX10_text := ⟨tb_in (i := 722) (by decide +kernel) rfl, tb_in (i := 723) (by decide +kernel) rfl⟩
theorem mo_X10_fault : MOk mX10_fault 1 := ⟨tb_in (i := 891) (by decide +kernel) rfl, tb_in (i := 121) (by decide +kernel) rfl, ⟨by decide, by decide⟩, by decide +kernel⟩
theorem mv_X10_fault : MVk mX10_fault := ⟨tb_in (i := 889) (by decide +kernel) rfl, tb_in (i := 890) (by decide +kernel) rfl⟩
theorem mo_X10_of : MOk mX10_of 2 := ⟨tb_in (i := 895) (by decide +kernel) rfl, tb_in (i := 121) (by decide +kernel) rfl, ⟨by decide, by decide⟩, by decide +kernel⟩
theorem mv_X10_of : MVk mX10_of := ⟨tb_in (i := 893) (by decide +kernel) rfl, tb_in (i := 894) (by decide +kernel) rfl⟩
theorem mo_X10_clothOf : MOk mX10_clothOf 2 := ⟨tb_in (i := 913) (by decide +kernel) rfl, tb_in (i := 121) (by decide +kernel) rfl, ⟨by decide, by decide⟩, by decide +kernel⟩
theorem mv_X10_clothOf : MVk mX10_clothOf := ⟨tb_in (i := 911) (by decide +kernel) rfl, tb_in (i := 912) (by decide +kernel) rfl⟩
theorem mo_X10_thingOf : MOk mX10_thingOf 2 := ⟨tb_in (i := 919) (by decide +kernel) rfl, tb_in (i := 121) (by decide +kernel) rfl, ⟨by decide, by decide⟩, by decide +kernel⟩
theorem mv_X10_thingOf : MVk mX10_thingOf := ⟨tb_in (i := 917) (by decide +kernel) rfl, tb_in (i := 918) (by decide +kernel) rfl⟩
theorem mo_X10_book : MOk mX10_book 2 := ⟨tb_in (i := 925) (by decide +kernel) rfl, tb_in (i := 121) (by decide +kernel) rfl, ⟨by decide, by decide⟩, by decide +kernel⟩
theorem mv_X10_book : MVk mX10_book := ⟨tb_in (i := 923) (by decide +kernel) rfl, tb_in (i := 924) (by decide +kernel) rfl⟩
theorem mo_X10_goes : MOk mX10_goes 2 := ⟨tb_in (i := 933) (by decide +kernel) rfl, tb_in (i := 121) (by decide +kernel) rfl, ⟨by decide, by decide⟩, by decide +kernel⟩
theorem mv_X10_goes : MVk mX10_goes := ⟨tb_in (i := 931) (by decide +kernel) rfl, tb_in (i := 932) (by decide +kernel) rfl⟩
theorem mo_X10_fate : MOk mX10_fate 1 := ⟨tb_in (i := 944) (by decide +kernel) rfl, tb_in (i := 121) (by decide +kernel) rfl, ⟨by decide, by decide⟩, by decide +kernel⟩
theorem mv_X10_fate : MVk mX10_fate := ⟨tb_in (i := 942) (by decide +kernel) rfl, tb_in (i := 943) (by decide +kernel) rfl⟩
theorem mo_X10_crossing : MOk mX10_crossing 1 := ⟨tb_in (i := 948) (by decide +kernel) rfl, tb_in (i := 121) (by decide +kernel) rfl, ⟨by decide, by decide⟩, by decide +kernel⟩
theorem mv_X10_crossing : MVk mX10_crossing := ⟨tb_in (i := 946) (by decide +kernel) rfl, tb_in (i := 947) (by decide +kernel) rfl⟩
theorem mo_X10_braid : MOk mX10_braid 1 := ⟨tb_in (i := 960) (by decide +kernel) rfl, tb_in (i := 121) (by decide +kernel) rfl, ⟨by decide, by decide⟩, by decide +kernel⟩
theorem mv_X10_braid : MVk mX10_braid := ⟨tb_in (i := 958) (by decide +kernel) rfl, tb_in (i := 959) (by decide +kernel) rfl⟩
theorem mo_X10_turnings : MOk mX10_turnings 2 := ⟨tb_in (i := 978) (by decide +kernel) rfl, tb_in (i := 121) (by decide +kernel) rfl, ⟨by decide, by decide⟩, by decide +kernel⟩
theorem mv_X10_turnings : MVk mX10_turnings := ⟨tb_in (i := 976) (by decide +kernel) rfl, tb_in (i := 977) (by decide +kernel) rfl⟩
theorem mo_X10_strip : MOk mX10_strip 3 := ⟨tb_in (i := 1003) (by decide +kernel) rfl, tb_in (i := 121) (by decide +kernel) rfl, ⟨by decide, by decide⟩, by decide +kernel⟩
theorem mv_X10_strip : MVk mX10_strip := ⟨tb_in (i := 1001) (by decide +kernel) rfl, tb_in (i := 1002) (by decide +kernel) rfl⟩
theorem mo_X10_answer : MOk mX10_answer 1 := ⟨tb_in (i := 1014) (by decide +kernel) rfl, tb_in (i := 121) (by decide +kernel) rfl, ⟨by decide, by decide⟩, by decide +kernel⟩
theorem mv_X10_answer : MVk mX10_answer := ⟨tb_in (i := 1012) (by decide +kernel) rfl, tb_in (i := 1013) (by decide +kernel) rfl⟩
theorem mo_X10_boxes : MOk mX10_boxes 1 := ⟨tb_in (i := 1018) (by decide +kernel) rfl, tb_in (i := 121) (by decide +kernel) rfl, ⟨by decide, by decide⟩, by decide +kernel⟩
theorem mv_X10_boxes : MVk mX10_boxes := ⟨tb_in (i := 1016) (by decide +kernel) rfl, tb_in (i := 1017) (by decide +kernel) rfl⟩
theorem mo_X10_piles : MOk mX10_piles 2 := ⟨tb_in (i := 1030) (by decide +kernel) rfl, tb_in (i := 121) (by decide +kernel) rfl, ⟨by decide, by decide⟩, by decide +kernel⟩
theorem mv_X10_piles : MVk mX10_piles := ⟨tb_in (i := 1028) (by decide +kernel) rfl, tb_in (i := 1029) (by decide +kernel) rfl⟩
theorem mo_X10_dealt : MOk mX10_dealt 1 := ⟨tb_in (i := 1038) (by decide +kernel) rfl, tb_in (i := 121) (by decide +kernel) rfl, ⟨by decide, by decide⟩, by decide +kernel⟩
theorem mv_X10_dealt : MVk mX10_dealt := ⟨tb_in (i := 1036) (by decide +kernel) rfl, tb_in (i := 1037) (by decide +kernel) rfl⟩
theorem mo_X10_key : MOk mX10_key 1 := ⟨tb_in (i := 1042) (by decide +kernel) rfl, tb_in (i := 121) (by decide +kernel) rfl, ⟨by decide, by decide⟩, by decide +kernel⟩
theorem mv_X10_key : MVk mX10_key := ⟨tb_in (i := 1040) (by decide +kernel) rfl, tb_in (i := 1041) (by decide +kernel) rfl⟩
theorem mo_X10_table : MOk mX10_table 3 := ⟨tb_in (i := 1046) (by decide +kernel) rfl, tb_in (i := 121) (by decide +kernel) rfl, ⟨by decide, by decide⟩, by decide +kernel⟩
theorem mv_X10_table : MVk mX10_table := ⟨tb_in (i := 1044) (by decide +kernel) rfl, tb_in (i := 1045) (by decide +kernel) rfl⟩
theorem mo_X10_ask : MOk mX10_ask 1 := ⟨tb_in (i := 1073) (by decide +kernel) rfl, tb_in (i := 121) (by decide +kernel) rfl, ⟨by decide, by decide⟩, by decide +kernel⟩
theorem mv_X10_ask : MVk mX10_ask := ⟨tb_in (i := 1071) (by decide +kernel) rfl, tb_in (i := 1072) (by decide +kernel) rfl⟩
theorem mo_X10_pages : MOk mX10_pages 2 := ⟨tb_in (i := 1077) (by decide +kernel) rfl, tb_in (i := 121) (by decide +kernel) rfl, ⟨by decide, by decide⟩, by decide +kernel⟩
theorem mv_X10_pages : MVk mX10_pages := ⟨tb_in (i := 1075) (by decide +kernel) rfl, tb_in (i := 1076) (by decide +kernel) rfl⟩
theorem mo_X10_truth : MOk mX10_truth 2 := ⟨tb_in (i := 1091) (by decide +kernel) rfl, tb_in (i := 121) (by decide +kernel) rfl, ⟨by decide, by decide⟩, by decide +kernel⟩
theorem mv_X10_truth : MVk mX10_truth := ⟨tb_in (i := 1089) (by decide +kernel) rfl, tb_in (i := 1090) (by decide +kernel) rfl⟩
theorem mo_X10_rounds : MOk mX10_rounds 3 := ⟨tb_in (i := 1111) (by decide +kernel) rfl, tb_in (i := 121) (by decide +kernel) rfl, ⟨by decide, by decide⟩, by decide +kernel⟩
theorem mv_X10_rounds : MVk mX10_rounds := ⟨tb_in (i := 1109) (by decide +kernel) rfl, tb_in (i := 1110) (by decide +kernel) rfl⟩
theorem mo_X10_meets : MOk mX10_meets 3 := ⟨tb_in (i := 1121) (by decide +kernel) rfl, tb_in (i := 121) (by decide +kernel) rfl, ⟨by decide, by decide⟩, by decide +kernel⟩
theorem mv_X10_meets : MVk mX10_meets := ⟨tb_in (i := 1119) (by decide +kernel) rfl, tb_in (i := 1120) (by decide +kernel) rfl⟩
theorem mo_X10_rows : MOk mX10_rows 2 := ⟨tb_in (i := 1125) (by decide +kernel) rfl, tb_in (i := 121) (by decide +kernel) rfl, ⟨by decide, by decide⟩, by decide +kernel⟩
theorem mv_X10_rows : MVk mX10_rows := ⟨tb_in (i := 1123) (by decide +kernel) rfl, tb_in (i := 1124) (by decide +kernel) rfl⟩
theorem mo_X10_digit : MOk mX10_digit 1 := ⟨tb_in (i := 1132) (by decide +kernel) rfl, tb_in (i := 121) (by decide +kernel) rfl, ⟨by decide, by decide⟩, by decide +kernel⟩
theorem mv_X10_digit : MVk mX10_digit := ⟨tb_in (i := 1130) (by decide +kernel) rfl, tb_in (i := 1131) (by decide +kernel) rfl⟩
theorem mo_X10_spelt : MOk mX10_spelt 2 := ⟨tb_in (i := 1136) (by decide +kernel) rfl, tb_in (i := 121) (by decide +kernel) rfl, ⟨by decide, by decide⟩, by decide +kernel⟩
theorem mv_X10_spelt : MVk mX10_spelt := ⟨tb_in (i := 1134) (by decide +kernel) rfl, tb_in (i := 1135) (by decide +kernel) rfl⟩
theorem mo_X10_game : MOk mX10_game 2 := ⟨tb_in (i := 1151) (by decide +kernel) rfl, tb_in (i := 121) (by decide +kernel) rfl, ⟨by decide, by decide⟩, by decide +kernel⟩
theorem mv_X10_game : MVk mX10_game := ⟨tb_in (i := 1149) (by decide +kernel) rfl, tb_in (i := 1150) (by decide +kernel) rfl⟩
theorem mo_X10_undo : MOk mX10_undo 0 := ⟨tb_in (i := 1169) (by decide +kernel) rfl, tb_in (i := 121) (by decide +kernel) rfl, ⟨by decide, by decide⟩, by decide +kernel⟩
theorem mv_X10_undo : MVk mX10_undo := ⟨tb_in (i := 1167) (by decide +kernel) rfl, tb_in (i := 1168) (by decide +kernel) rfl⟩
theorem mo_X10_image : MOk mX10_image 1 := ⟨tb_in (i := 1173) (by decide +kernel) rfl, tb_in (i := 121) (by decide +kernel) rfl, ⟨by decide, by decide⟩, by decide +kernel⟩
theorem mv_X10_image : MVk mX10_image := ⟨tb_in (i := 1171) (by decide +kernel) rfl, tb_in (i := 1172) (by decide +kernel) rfl⟩
theorem mo_X10_look : MOk mX10_look 1 := ⟨tb_in (i := 1194) (by decide +kernel) rfl, tb_in (i := 121) (by decide +kernel) rfl, ⟨by decide, by decide⟩, by decide +kernel⟩
theorem mv_X10_look : MVk mX10_look := ⟨tb_in (i := 1192) (by decide +kernel) rfl, tb_in (i := 1193) (by decide +kernel) rfl⟩
theorem mo_X10_isWithin : MOk mX10_isWithin 3 := ⟨tb_in (i := 525) (by decide +kernel) rfl, tb_in (i := 121) (by decide +kernel) rfl, ⟨by decide, by decide⟩, by decide +kernel⟩
theorem ms_X10_isWithin : Cond.static (mY mX10_isWithin) ∈ tb := tb_in (i := 524) (by decide +kernel) rfl
theorem mo_X10_sum : MOk mX10_sum 2 := ⟨tb_in (i := 940) (by decide +kernel) rfl, tb_in (i := 121) (by decide +kernel) rfl, ⟨by decide, by decide⟩, by decide +kernel⟩
theorem ms_X10_sum : Cond.static (mY mX10_sum) ∈ tb := tb_in (i := 939) (by decide +kernel) rfl
theorem mo_X10_forgetUndosFor : MOk mX10_forgetUndosFor 1 := ⟨tb_in (i := 533) (by decide +kernel) rfl, tb_in (i := 121) (by decide +kernel) rfl, ⟨by decide, by decide⟩, by decide +kernel⟩
theorem mv_X10_forgetUndosFor : MVk mX10_forgetUndosFor := ⟨tb_in (i := 532) (by decide +kernel) rfl, tb_in (i := 0) (by decide +kernel) rfl⟩
theorem mo_X10_keepForUndo : MOk mX10_keepForUndo 0 := ⟨tb_in (i := 586) (by decide +kernel) rfl, tb_in (i := 121) (by decide +kernel) rfl, ⟨by decide, by decide⟩, by decide +kernel⟩
theorem mv_X10_keepForUndo : MVk mX10_keepForUndo := ⟨tb_in (i := 585) (by decide +kernel) rfl, tb_in (i := 1) (by decide +kernel) rfl⟩
theorem mo_X10_think : MOk mX10_think 1 := ⟨tb_in (i := 937) (by decide +kernel) rfl, tb_in (i := 121) (by decide +kernel) rfl, ⟨by decide, by decide⟩, by decide +kernel⟩
theorem mv_X10_think : MVk mX10_think := ⟨tb_in (i := 936) (by decide +kernel) rfl, tb_in (i := 22) (by decide +kernel) rfl⟩
theorem mo_X10_tellLines : MOk mX10_tellLines 1 := ⟨tb_in (i := 881) (by decide +kernel) rfl, tb_in (i := 121) (by decide +kernel) rfl, ⟨by decide, by decide⟩, by decide +kernel⟩
theorem mv_X10_tellLines : MVk mX10_tellLines := ⟨tb_in (i := 880) (by decide +kernel) rfl, tb_in (i := 21) (by decide +kernel) rfl⟩
theorem mo_X11_isIn : MOk mX11_isIn 3 := ⟨tb_in (i := 1423) (by decide +kernel) rfl, tb_in (i := 133) (by decide +kernel) rfl, ⟨by decide, by decide⟩, by decide +kernel⟩
theorem mv_X11_isIn : MVk mX11_isIn := ⟨tb_in (i := 1422) (by decide +kernel) rfl, tb_in (i := 26) (by decide +kernel) rfl⟩
theorem mo_X11_held : MOk mX11_held 3 := ⟨tb_in (i := 1675) (by decide +kernel) rfl, tb_in (i := 133) (by decide +kernel) rfl, ⟨by decide, by decide⟩, by decide +kernel⟩
theorem mv_X11_held : MVk mX11_held := ⟨tb_in (i := 1674) (by decide +kernel) rfl, tb_in (i := 81) (by decide +kernel) rfl⟩
theorem mo_X11_lesser : MOk mX11_lesser 2 := ⟨tb_in (i := 1687) (by decide +kernel) rfl, tb_in (i := 133) (by decide +kernel) rfl, ⟨by decide, by decide⟩, by decide +kernel⟩
theorem mv_X11_lesser : MVk mX11_lesser := ⟨tb_in (i := 1686) (by decide +kernel) rfl, tb_in (i := 84) (by decide +kernel) rfl⟩
theorem mo_X11_onesOf : MOk mX11_onesOf 1 := ⟨tb_in (i := 1854) (by decide +kernel) rfl, tb_in (i := 133) (by decide +kernel) rfl, ⟨by decide, by decide⟩, by decide +kernel⟩
theorem mv_X11_onesOf : MVk mX11_onesOf := ⟨tb_in (i := 1853) (by decide +kernel) rfl, tb_in (i := 106) (by decide +kernel) rfl⟩
theorem mo_X11_has : MOk mX11_has 2 := ⟨tb_in (i := 1651) (by decide +kernel) rfl, tb_in (i := 133) (by decide +kernel) rfl, ⟨by decide, by decide⟩, by decide +kernel⟩
theorem mv_X11_has : MVk mX11_has := ⟨tb_in (i := 1650) (by decide +kernel) rfl, tb_in (i := 75) (by decide +kernel) rfl⟩
theorem mo_X11_keepsAhead : MOk mX11_keepsAhead 0 := ⟨tb_in (i := 1631) (by decide +kernel) rfl, tb_in (i := 133) (by decide +kernel) rfl, ⟨by decide, by decide⟩, by decide +kernel⟩
theorem mv_X11_keepsAhead : MVk mX11_keepsAhead := ⟨tb_in (i := 1630) (by decide +kernel) rfl, tb_in (i := 70) (by decide +kernel) rfl⟩
theorem mo_X11_undo : MOk mX11_undo 0 := ⟨tb_in (i := 1411) (by decide +kernel) rfl, tb_in (i := 133) (by decide +kernel) rfl, ⟨by decide, by decide⟩, by decide +kernel⟩
theorem mv_X11_undo : MVk mX11_undo := ⟨tb_in (i := 1409) (by decide +kernel) rfl, tb_in (i := 1410) (by decide +kernel) rfl⟩
theorem mo_X11_thinks : MOk mX11_thinks 0 := ⟨tb_in (i := 1758) (by decide +kernel) rfl, tb_in (i := 133) (by decide +kernel) rfl, ⟨by decide, by decide⟩, by decide +kernel⟩
theorem mv_X11_thinks : MVk mX11_thinks := ⟨tb_in (i := 1757) (by decide +kernel) rfl, tb_in (i := 95) (by decide +kernel) rfl⟩
theorem mo_X11_endsThought : MOk mX11_endsThought 0 := ⟨tb_in (i := 1770) (by decide +kernel) rfl, tb_in (i := 133) (by decide +kernel) rfl, ⟨by decide, by decide⟩, by decide +kernel⟩
theorem mv_X11_endsThought : MVk mX11_endsThought := ⟨tb_in (i := 1769) (by decide +kernel) rfl, tb_in (i := 98) (by decide +kernel) rfl⟩
theorem mo_X11_state : MOk mX11_state 1 := ⟨tb_in (i := 1415) (by decide +kernel) rfl, tb_in (i := 133) (by decide +kernel) rfl, ⟨by decide, by decide⟩, by decide +kernel⟩
theorem mv_X11_state : MVk mX11_state := ⟨tb_in (i := 1413) (by decide +kernel) rfl, tb_in (i := 1414) (by decide +kernel) rfl⟩
theorem mo_X11_draw : MOk mX11_draw 1 := ⟨tb_in (i := 1699) (by decide +kernel) rfl, tb_in (i := 133) (by decide +kernel) rfl, ⟨by decide, by decide⟩, by decide +kernel⟩
theorem mv_X11_draw : MVk mX11_draw := ⟨tb_in (i := 1698) (by decide +kernel) rfl, tb_in (i := 87) (by decide +kernel) rfl⟩
theorem mo_X11_isPerson : MOk mX11_isPerson 1 := ⟨tb_in (i := 1431) (by decide +kernel) rfl, tb_in (i := 133) (by decide +kernel) rfl, ⟨by decide, by decide⟩, by decide +kernel⟩
theorem mv_X11_isPerson : MVk mX11_isPerson := ⟨tb_in (i := 1430) (by decide +kernel) rfl, tb_in (i := 27) (by decide +kernel) rfl⟩
theorem mo_X11_isCloth : MOk mX11_isCloth 1 := ⟨tb_in (i := 1447) (by decide +kernel) rfl, tb_in (i := 133) (by decide +kernel) rfl, ⟨by decide, by decide⟩, by decide +kernel⟩
theorem mv_X11_isCloth : MVk mX11_isCloth := ⟨tb_in (i := 1446) (by decide +kernel) rfl, tb_in (i := 29) (by decide +kernel) rfl⟩
theorem mo_X11_isThing : MOk mX11_isThing 1 := ⟨tb_in (i := 1451) (by decide +kernel) rfl, tb_in (i := 133) (by decide +kernel) rfl, ⟨by decide, by decide⟩, by decide +kernel⟩
theorem mv_X11_isThing : MVk mX11_isThing := ⟨tb_in (i := 1450) (by decide +kernel) rfl, tb_in (i := 30) (by decide +kernel) rfl⟩
theorem mo_X11_isOpen : MOk mX11_isOpen 1 := ⟨tb_in (i := 1455) (by decide +kernel) rfl, tb_in (i := 133) (by decide +kernel) rfl, ⟨by decide, by decide⟩, by decide +kernel⟩
theorem mv_X11_isOpen : MVk mX11_isOpen := ⟨tb_in (i := 1454) (by decide +kernel) rfl, tb_in (i := 31) (by decide +kernel) rfl⟩
theorem mo_X11_inCloth : MOk mX11_inCloth 1 := ⟨tb_in (i := 1459) (by decide +kernel) rfl, tb_in (i := 133) (by decide +kernel) rfl, ⟨by decide, by decide⟩, by decide +kernel⟩
theorem mv_X11_inCloth : MVk mX11_inCloth := ⟨tb_in (i := 1458) (by decide +kernel) rfl, tb_in (i := 32) (by decide +kernel) rfl⟩
theorem mo_X11_knotOf : MOk mX11_knotOf 2 := ⟨tb_in (i := 1627) (by decide +kernel) rfl, tb_in (i := 133) (by decide +kernel) rfl, ⟨by decide, by decide⟩, by decide +kernel⟩
theorem mv_X11_knotOf : MVk mX11_knotOf := ⟨tb_in (i := 1626) (by decide +kernel) rfl, tb_in (i := 69) (by decide +kernel) rfl⟩
theorem mo_X11_knotsOf : MOk mX11_knotsOf 1 := ⟨tb_in (i := 1623) (by decide +kernel) rfl, tb_in (i := 133) (by decide +kernel) rfl, ⟨by decide, by decide⟩, by decide +kernel⟩
theorem mv_X11_knotsOf : MVk mX11_knotsOf := ⟨tb_in (i := 1622) (by decide +kernel) rfl, tb_in (i := 68) (by decide +kernel) rfl⟩
theorem mo_X11_person : MOk mX11_person 1 := ⟨tb_in (i := 1419) (by decide +kernel) rfl, tb_in (i := 133) (by decide +kernel) rfl, ⟨by decide, by decide⟩, by decide +kernel⟩
theorem mv_X11_person : MVk mX11_person := ⟨tb_in (i := 1417) (by decide +kernel) rfl, tb_in (i := 1418) (by decide +kernel) rfl⟩
theorem mo_X11_cloth : MOk mX11_cloth 1 := ⟨tb_in (i := 1427) (by decide +kernel) rfl, tb_in (i := 133) (by decide +kernel) rfl, ⟨by decide, by decide⟩, by decide +kernel⟩
theorem mv_X11_cloth : MVk mX11_cloth := ⟨tb_in (i := 1425) (by decide +kernel) rfl, tb_in (i := 1426) (by decide +kernel) rfl⟩
theorem mo_X11_thing : MOk mX11_thing 2 := ⟨tb_in (i := 1435) (by decide +kernel) rfl, tb_in (i := 133) (by decide +kernel) rfl, ⟨by decide, by decide⟩, by decide +kernel⟩
theorem mv_X11_thing : MVk mX11_thing := ⟨tb_in (i := 1433) (by decide +kernel) rfl, tb_in (i := 1434) (by decide +kernel) rfl⟩
theorem mo_X11_canSet : MOk mX11_canSet 3 := ⟨tb_in (i := 1443) (by decide +kernel) rfl, tb_in (i := 133) (by decide +kernel) rfl, ⟨by decide, by decide⟩, by decide +kernel⟩
theorem mv_X11_canSet : MVk mX11_canSet := ⟨tb_in (i := 1442) (by decide +kernel) rfl, tb_in (i := 28) (by decide +kernel) rfl⟩
theorem mo_X11_set : MOk mX11_set 3 := ⟨tb_in (i := 1439) (by decide +kernel) rfl, tb_in (i := 133) (by decide +kernel) rfl, ⟨by decide, by decide⟩, by decide +kernel⟩
theorem mv_X11_set : MVk mX11_set := ⟨tb_in (i := 1437) (by decide +kernel) rfl, tb_in (i := 1438) (by decide +kernel) rfl⟩
theorem mo_X11_types : MOk mX11_types 1 := ⟨tb_in (i := 1467) (by decide +kernel) rfl, tb_in (i := 133) (by decide +kernel) rfl, ⟨by decide, by decide⟩, by decide +kernel⟩
theorem mv_X11_types : MVk mX11_types := ⟨tb_in (i := 1466) (by decide +kernel) rfl, tb_in (i := 33) (by decide +kernel) rfl⟩
theorem mo_X11_feed : MOk mX11_feed 5 := ⟨tb_in (i := 1463) (by decide +kernel) rfl, tb_in (i := 133) (by decide +kernel) rfl, ⟨by decide, by decide⟩, by decide +kernel⟩
theorem mv_X11_feed : MVk mX11_feed := ⟨tb_in (i := 1461) (by decide +kernel) rfl, tb_in (i := 1462) (by decide +kernel) rfl⟩
theorem mo_X11_end : MOk mX11_end 1 := ⟨tb_in (i := 1471) (by decide +kernel) rfl, tb_in (i := 133) (by decide +kernel) rfl, ⟨by decide, by decide⟩, by decide +kernel⟩
theorem mv_X11_end : MVk mX11_end := ⟨tb_in (i := 1469) (by decide +kernel) rfl, tb_in (i := 1470) (by decide +kernel) rfl⟩
theorem mo_X11_raw : MOk mX11_raw 1 := ⟨tb_in (i := 1487) (by decide +kernel) rfl, tb_in (i := 133) (by decide +kernel) rfl, ⟨by decide, by decide⟩, by decide +kernel⟩
theorem mv_X11_raw : MVk mX11_raw := ⟨tb_in (i := 1486) (by decide +kernel) rfl, tb_in (i := 36) (by decide +kernel) rfl⟩
theorem mo_X11_isLetter : MOk mX11_isLetter 1 := ⟨tb_in (i := 1491) (by decide +kernel) rfl, tb_in (i := 133) (by decide +kernel) rfl, ⟨by decide, by decide⟩, by decide +kernel⟩
theorem mv_X11_isLetter : MVk mX11_isLetter := ⟨tb_in (i := 1490) (by decide +kernel) rfl, tb_in (i := 37) (by decide +kernel) rfl⟩
theorem mo_X11_isDigit : MOk mX11_isDigit 1 := ⟨tb_in (i := 1499) (by decide +kernel) rfl, tb_in (i := 133) (by decide +kernel) rfl, ⟨by decide, by decide⟩, by decide +kernel⟩
theorem mv_X11_isDigit : MVk mX11_isDigit := ⟨tb_in (i := 1498) (by decide +kernel) rfl, tb_in (i := 39) (by decide +kernel) rfl⟩
theorem mo_X11_isMarkSign : MOk mX11_isMarkSign 1 := ⟨tb_in (i := 1503) (by decide +kernel) rfl, tb_in (i := 133) (by decide +kernel) rfl, ⟨by decide, by decide⟩, by decide +kernel⟩
theorem mv_X11_isMarkSign : MVk mX11_isMarkSign := ⟨tb_in (i := 1502) (by decide +kernel) rfl, tb_in (i := 40) (by decide +kernel) rfl⟩
theorem mo_X11_wordAt : MOk mX11_wordAt 2 := ⟨tb_in (i := 1495) (by decide +kernel) rfl, tb_in (i := 133) (by decide +kernel) rfl, ⟨by decide, by decide⟩, by decide +kernel⟩
theorem mv_X11_wordAt : MVk mX11_wordAt := ⟨tb_in (i := 1494) (by decide +kernel) rfl, tb_in (i := 38) (by decide +kernel) rfl⟩
theorem mo_X11_reads : MOk mX11_reads 0 := ⟨tb_in (i := 1483) (by decide +kernel) rfl, tb_in (i := 133) (by decide +kernel) rfl, ⟨by decide, by decide⟩, by decide +kernel⟩
theorem mv_X11_reads : MVk mX11_reads := ⟨tb_in (i := 1482) (by decide +kernel) rfl, tb_in (i := 35) (by decide +kernel) rfl⟩
theorem mo_X11_errs : MOk mX11_errs 1 := ⟨tb_in (i := 1515) (by decide +kernel) rfl, tb_in (i := 133) (by decide +kernel) rfl, ⟨by decide, by decide⟩, by decide +kernel⟩
theorem mv_X11_errs : MVk mX11_errs := ⟨tb_in (i := 1514) (by decide +kernel) rfl, tb_in (i := 43) (by decide +kernel) rfl⟩
theorem mo_X11_isWord : MOk mX11_isWord 1 := ⟨tb_in (i := 1511) (by decide +kernel) rfl, tb_in (i := 133) (by decide +kernel) rfl, ⟨by decide, by decide⟩, by decide +kernel⟩
theorem mv_X11_isWord : MVk mX11_isWord := ⟨tb_in (i := 1510) (by decide +kernel) rfl, tb_in (i := 42) (by decide +kernel) rfl⟩
theorem mo_X11_isSign : MOk mX11_isSign 1 := ⟨tb_in (i := 1535) (by decide +kernel) rfl, tb_in (i := 133) (by decide +kernel) rfl, ⟨by decide, by decide⟩, by decide +kernel⟩
theorem mv_X11_isSign : MVk mX11_isSign := ⟨tb_in (i := 1534) (by decide +kernel) rfl, tb_in (i := 48) (by decide +kernel) rfl⟩
theorem mo_X11_emits : MOk mX11_emits 2 := ⟨tb_in (i := 1579) (by decide +kernel) rfl, tb_in (i := 133) (by decide +kernel) rfl, ⟨by decide, by decide⟩, by decide +kernel⟩
theorem mv_X11_emits : MVk mX11_emits := ⟨tb_in (i := 1578) (by decide +kernel) rfl, tb_in (i := 59) (by decide +kernel) rfl⟩
theorem mo_X11_canAsk : MOk mX11_canAsk 1 := ⟨tb_in (i := 1575) (by decide +kernel) rfl, tb_in (i := 133) (by decide +kernel) rfl, ⟨by decide, by decide⟩, by decide +kernel⟩
theorem mv_X11_canAsk : MVk mX11_canAsk := ⟨tb_in (i := 1574) (by decide +kernel) rfl, tb_in (i := 58) (by decide +kernel) rfl⟩
theorem mo_X11_readUnit : MOk mX11_readUnit 0 := ⟨tb_in (i := 1571) (by decide +kernel) rfl, tb_in (i := 133) (by decide +kernel) rfl, ⟨by decide, by decide⟩, by decide +kernel⟩
theorem mv_X11_readUnit : MVk mX11_readUnit := ⟨tb_in (i := 1570) (by decide +kernel) rfl, tb_in (i := 57) (by decide +kernel) rfl⟩
theorem mo_X11_readProduct : MOk mX11_readProduct 0 := ⟨tb_in (i := 1567) (by decide +kernel) rfl, tb_in (i := 133) (by decide +kernel) rfl, ⟨by decide, by decide⟩, by decide +kernel⟩
theorem mv_X11_readProduct : MVk mX11_readProduct := ⟨tb_in (i := 1566) (by decide +kernel) rfl, tb_in (i := 56) (by decide +kernel) rfl⟩
theorem mo_X11_readSum : MOk mX11_readSum 0 := ⟨tb_in (i := 1563) (by decide +kernel) rfl, tb_in (i := 133) (by decide +kernel) rfl, ⟨by decide, by decide⟩, by decide +kernel⟩
theorem mv_X11_readSum : MVk mX11_readSum := ⟨tb_in (i := 1562) (by decide +kernel) rfl, tb_in (i := 55) (by decide +kernel) rfl⟩
theorem mo_X11_readCompared : MOk mX11_readCompared 0 := ⟨tb_in (i := 1591) (by decide +kernel) rfl, tb_in (i := 133) (by decide +kernel) rfl, ⟨by decide, by decide⟩, by decide +kernel⟩
theorem mv_X11_readCompared : MVk mX11_readCompared := ⟨tb_in (i := 1590) (by decide +kernel) rfl, tb_in (i := 62) (by decide +kernel) rfl⟩
theorem mo_X11_waits : MOk mX11_waits 1 := ⟨tb_in (i := 1587) (by decide +kernel) rfl, tb_in (i := 133) (by decide +kernel) rfl, ⟨by decide, by decide⟩, by decide +kernel⟩
theorem mv_X11_waits : MVk mX11_waits := ⟨tb_in (i := 1586) (by decide +kernel) rfl, tb_in (i := 61) (by decide +kernel) rfl⟩
theorem mo_X11_settles : MOk mX11_settles 1 := ⟨tb_in (i := 1595) (by decide +kernel) rfl, tb_in (i := 133) (by decide +kernel) rfl, ⟨by decide, by decide⟩, by decide +kernel⟩
theorem mv_X11_settles : MVk mX11_settles := ⟨tb_in (i := 1594) (by decide +kernel) rfl, tb_in (i := 63) (by decide +kernel) rfl⟩
theorem mo_X11_readAny : MOk mX11_readAny 0 := ⟨tb_in (i := 1583) (by decide +kernel) rfl, tb_in (i := 133) (by decide +kernel) rfl, ⟨by decide, by decide⟩, by decide +kernel⟩
theorem mv_X11_readAny : MVk mX11_readAny := ⟨tb_in (i := 1582) (by decide +kernel) rfl, tb_in (i := 60) (by decide +kernel) rfl⟩
theorem mo_X11_isLineWord : MOk mX11_isLineWord 0 := ⟨tb_in (i := 1559) (by decide +kernel) rfl, tb_in (i := 133) (by decide +kernel) rfl, ⟨by decide, by decide⟩, by decide +kernel⟩
theorem mv_X11_isLineWord : MVk mX11_isLineWord := ⟨tb_in (i := 1558) (by decide +kernel) rfl, tb_in (i := 54) (by decide +kernel) rfl⟩
theorem mo_X11_readLaw : MOk mX11_readLaw 0 := ⟨tb_in (i := 1555) (by decide +kernel) rfl, tb_in (i := 133) (by decide +kernel) rfl, ⟨by decide, by decide⟩, by decide +kernel⟩
theorem mv_X11_readLaw : MVk mX11_readLaw := ⟨tb_in (i := 1554) (by decide +kernel) rfl, tb_in (i := 53) (by decide +kernel) rfl⟩
theorem mo_X11_takesLaw : MOk mX11_takesLaw 1 := ⟨tb_in (i := 1599) (by decide +kernel) rfl, tb_in (i := 133) (by decide +kernel) rfl, ⟨by decide, by decide⟩, by decide +kernel⟩
theorem mv_X11_takesLaw : MVk mX11_takesLaw := ⟨tb_in (i := 1598) (by decide +kernel) rfl, tb_in (i := 64) (by decide +kernel) rfl⟩
theorem mo_X11_readNumber : MOk mX11_readNumber 2 := ⟨tb_in (i := 1527) (by decide +kernel) rfl, tb_in (i := 133) (by decide +kernel) rfl, ⟨by decide, by decide⟩, by decide +kernel⟩
theorem mv_X11_readNumber : MVk mX11_readNumber := ⟨tb_in (i := 1526) (by decide +kernel) rfl, tb_in (i := 46) (by decide +kernel) rfl⟩
theorem mo_X11_readMark : MOk mX11_readMark 1 := ⟨tb_in (i := 1531) (by decide +kernel) rfl, tb_in (i := 133) (by decide +kernel) rfl, ⟨by decide, by decide⟩, by decide +kernel⟩
theorem mv_X11_readMark : MVk mX11_readMark := ⟨tb_in (i := 1530) (by decide +kernel) rfl, tb_in (i := 47) (by decide +kernel) rfl⟩
theorem mo_X11_readTold : MOk mX11_readTold 3 := ⟨tb_in (i := 1523) (by decide +kernel) rfl, tb_in (i := 133) (by decide +kernel) rfl, ⟨by decide, by decide⟩, by decide +kernel⟩
theorem mv_X11_readTold : MVk mX11_readTold := ⟨tb_in (i := 1522) (by decide +kernel) rfl, tb_in (i := 45) (by decide +kernel) rfl⟩
theorem mo_X11_readDeed : MOk mX11_readDeed 1 := ⟨tb_in (i := 1519) (by decide +kernel) rfl, tb_in (i := 133) (by decide +kernel) rfl, ⟨by decide, by decide⟩, by decide +kernel⟩
theorem mv_X11_readDeed : MVk mX11_readDeed := ⟨tb_in (i := 1518) (by decide +kernel) rfl, tb_in (i := 44) (by decide +kernel) rfl⟩
theorem mo_X11_readDeeds : MOk mX11_readDeeds 0 := ⟨tb_in (i := 1507) (by decide +kernel) rfl, tb_in (i := 133) (by decide +kernel) rfl, ⟨by decide, by decide⟩, by decide +kernel⟩
theorem mv_X11_readDeeds : MVk mX11_readDeeds := ⟨tb_in (i := 1506) (by decide +kernel) rfl, tb_in (i := 41) (by decide +kernel) rfl⟩
theorem mo_X11_readMind : MOk mX11_readMind 1 := ⟨tb_in (i := 1543) (by decide +kernel) rfl, tb_in (i := 133) (by decide +kernel) rfl, ⟨by decide, by decide⟩, by decide +kernel⟩
theorem mv_X11_readMind : MVk mX11_readMind := ⟨tb_in (i := 1542) (by decide +kernel) rfl, tb_in (i := 50) (by decide +kernel) rfl⟩
theorem mo_X11_readMinds : MOk mX11_readMinds 0 := ⟨tb_in (i := 1539) (by decide +kernel) rfl, tb_in (i := 133) (by decide +kernel) rfl, ⟨by decide, by decide⟩, by decide +kernel⟩
theorem mv_X11_readMinds : MVk mX11_readMinds := ⟨tb_in (i := 1538) (by decide +kernel) rfl, tb_in (i := 49) (by decide +kernel) rfl⟩
theorem mo_X11_readFriend : MOk mX11_readFriend 0 := ⟨tb_in (i := 1551) (by decide +kernel) rfl, tb_in (i := 133) (by decide +kernel) rfl, ⟨by decide, by decide⟩, by decide +kernel⟩
theorem mv_X11_readFriend : MVk mX11_readFriend := ⟨tb_in (i := 1550) (by decide +kernel) rfl, tb_in (i := 52) (by decide +kernel) rfl⟩
theorem mo_X11_readFriends : MOk mX11_readFriends 0 := ⟨tb_in (i := 1547) (by decide +kernel) rfl, tb_in (i := 133) (by decide +kernel) rfl, ⟨by decide, by decide⟩, by decide +kernel⟩
theorem mv_X11_readFriends : MVk mX11_readFriends := ⟨tb_in (i := 1546) (by decide +kernel) rfl, tb_in (i := 51) (by decide +kernel) rfl⟩
theorem mo_X11_readsText : MOk mX11_readsText 1 := ⟨tb_in (i := 1479) (by decide +kernel) rfl, tb_in (i := 133) (by decide +kernel) rfl, ⟨by decide, by decide⟩, by decide +kernel⟩
theorem mv_X11_readsText : MVk mX11_readsText := ⟨tb_in (i := 1478) (by decide +kernel) rfl, tb_in (i := 34) (by decide +kernel) rfl⟩
theorem mo_X11_takesOther : MOk mX11_takesOther 2 := ⟨tb_in (i := 1603) (by decide +kernel) rfl, tb_in (i := 133) (by decide +kernel) rfl, ⟨by decide, by decide⟩, by decide +kernel⟩
theorem mv_X11_takesOther : MVk mX11_takesOther := ⟨tb_in (i := 1602) (by decide +kernel) rfl, tb_in (i := 65) (by decide +kernel) rfl⟩
theorem mo_X11_text : MOk mX11_text 1 := ⟨tb_in (i := 1475) (by decide +kernel) rfl, tb_in (i := 133) (by decide +kernel) rfl, ⟨by decide, by decide⟩, by decide +kernel⟩
theorem mv_X11_text : MVk mX11_text := ⟨tb_in (i := 1473) (by decide +kernel) rfl, tb_in (i := 1474) (by decide +kernel) rfl⟩
theorem mo_X11_fault : MOk mX11_fault 1 := ⟨tb_in (i := 1607) (by decide +kernel) rfl, tb_in (i := 133) (by decide +kernel) rfl, ⟨by decide, by decide⟩, by decide +kernel⟩
theorem mv_X11_fault : MVk mX11_fault := ⟨tb_in (i := 1605) (by decide +kernel) rfl, tb_in (i := 1606) (by decide +kernel) rfl⟩
theorem mo_X11_twoOf : MOk mX11_twoOf 3 := ⟨tb_in (i := 1671) (by decide +kernel) rfl, tb_in (i := 133) (by decide +kernel) rfl, ⟨by decide, by decide⟩, by decide +kernel⟩
theorem mv_X11_twoOf : MVk mX11_twoOf := ⟨tb_in (i := 1670) (by decide +kernel) rfl, tb_in (i := 80) (by decide +kernel) rfl⟩
theorem mo_X11_runs : MOk mX11_runs 3 := ⟨tb_in (i := 1667) (by decide +kernel) rfl, tb_in (i := 133) (by decide +kernel) rfl, ⟨by decide, by decide⟩, by decide +kernel⟩
theorem mv_X11_runs : MVk mX11_runs := ⟨tb_in (i := 1666) (by decide +kernel) rfl, tb_in (i := 79) (by decide +kernel) rfl⟩
theorem mo_X11_lineOf : MOk mX11_lineOf 1 := ⟨tb_in (i := 1663) (by decide +kernel) rfl, tb_in (i := 133) (by decide +kernel) rfl, ⟨by decide, by decide⟩, by decide +kernel⟩
theorem mv_X11_lineOf : MVk mX11_lineOf := ⟨tb_in (i := 1662) (by decide +kernel) rfl, tb_in (i := 78) (by decide +kernel) rfl⟩
theorem mo_X11_openMany : MOk mX11_openMany 0 := ⟨tb_in (i := 1655) (by decide +kernel) rfl, tb_in (i := 133) (by decide +kernel) rfl, ⟨by decide, by decide⟩, by decide +kernel⟩
theorem mv_X11_openMany : MVk mX11_openMany := ⟨tb_in (i := 1654) (by decide +kernel) rfl, tb_in (i := 76) (by decide +kernel) rfl⟩
theorem mo_X11_asks : MOk mX11_asks 2 := ⟨tb_in (i := 1647) (by decide +kernel) rfl, tb_in (i := 133) (by decide +kernel) rfl, ⟨by decide, by decide⟩, by decide +kernel⟩
theorem mv_X11_asks : MVk mX11_asks := ⟨tb_in (i := 1646) (by decide +kernel) rfl, tb_in (i := 74) (by decide +kernel) rfl⟩
theorem mo_X11_lawTells : MOk mX11_lawTells 4 := ⟨tb_in (i := 1659) (by decide +kernel) rfl, tb_in (i := 133) (by decide +kernel) rfl, ⟨by decide, by decide⟩, by decide +kernel⟩
theorem mv_X11_lawTells : MVk mX11_lawTells := ⟨tb_in (i := 1658) (by decide +kernel) rfl, tb_in (i := 77) (by decide +kernel) rfl⟩
theorem mo_X11_tiesOf : MOk mX11_tiesOf 2 := ⟨tb_in (i := 1643) (by decide +kernel) rfl, tb_in (i := 133) (by decide +kernel) rfl, ⟨by decide, by decide⟩, by decide +kernel⟩
theorem mv_X11_tiesOf : MVk mX11_tiesOf := ⟨tb_in (i := 1642) (by decide +kernel) rfl, tb_in (i := 73) (by decide +kernel) rfl⟩
theorem mo_X11_slipsOf : MOk mX11_slipsOf 1 := ⟨tb_in (i := 1691) (by decide +kernel) rfl, tb_in (i := 133) (by decide +kernel) rfl, ⟨by decide, by decide⟩, by decide +kernel⟩
theorem mv_X11_slipsOf : MVk mX11_slipsOf := ⟨tb_in (i := 1690) (by decide +kernel) rfl, tb_in (i := 85) (by decide +kernel) rfl⟩
theorem mo_X11_tellsOf : MOk mX11_tellsOf 1 := ⟨tb_in (i := 1725) (by decide +kernel) rfl, tb_in (i := 133) (by decide +kernel) rfl, ⟨by decide, by decide⟩, by decide +kernel⟩
theorem mv_X11_tellsOf : MVk mX11_tellsOf := ⟨tb_in (i := 1724) (by decide +kernel) rfl, tb_in (i := 92) (by decide +kernel) rfl⟩
theorem mo_X11_notes : MOk mX11_notes 3 := ⟨tb_in (i := 1679) (by decide +kernel) rfl, tb_in (i := 133) (by decide +kernel) rfl, ⟨by decide, by decide⟩, by decide +kernel⟩
theorem mv_X11_notes : MVk mX11_notes := ⟨tb_in (i := 1678) (by decide +kernel) rfl, tb_in (i := 82) (by decide +kernel) rfl⟩
theorem mo_X11_canTie : MOk mX11_canTie 2 := ⟨tb_in (i := 1619) (by decide +kernel) rfl, tb_in (i := 133) (by decide +kernel) rfl, ⟨by decide, by decide⟩, by decide +kernel⟩
theorem mv_X11_canTie : MVk mX11_canTie := ⟨tb_in (i := 1618) (by decide +kernel) rfl, tb_in (i := 67) (by decide +kernel) rfl⟩
theorem mo_X11_isTied : MOk mX11_isTied 2 := ⟨tb_in (i := 1639) (by decide +kernel) rfl, tb_in (i := 133) (by decide +kernel) rfl, ⟨by decide, by decide⟩, by decide +kernel⟩
theorem mv_X11_isTied : MVk mX11_isTied := ⟨tb_in (i := 1638) (by decide +kernel) rfl, tb_in (i := 72) (by decide +kernel) rfl⟩
theorem mo_X11_comesOut : MOk mX11_comesOut 1 := ⟨tb_in (i := 1705) (by decide +kernel) rfl, tb_in (i := 133) (by decide +kernel) rfl, ⟨by decide, by decide⟩, by decide +kernel⟩
theorem mv_X11_comesOut : MVk mX11_comesOut := ⟨tb_in (i := 1704) (by decide +kernel) rfl, tb_in (i := 88) (by decide +kernel) rfl⟩
theorem mo_X11_happens : MOk mX11_happens 1 := ⟨tb_in (i := 1695) (by decide +kernel) rfl, tb_in (i := 133) (by decide +kernel) rfl, ⟨by decide, by decide⟩, by decide +kernel⟩
theorem mv_X11_happens : MVk mX11_happens := ⟨tb_in (i := 1694) (by decide +kernel) rfl, tb_in (i := 86) (by decide +kernel) rfl⟩
theorem mo_X11_isWashed : MOk mX11_isWashed 1 := ⟨tb_in (i := 1683) (by decide +kernel) rfl, tb_in (i := 133) (by decide +kernel) rfl, ⟨by decide, by decide⟩, by decide +kernel⟩
theorem mv_X11_isWashed : MVk mX11_isWashed := ⟨tb_in (i := 1682) (by decide +kernel) rfl, tb_in (i := 83) (by decide +kernel) rfl⟩
theorem mo_X11_isPulled : MOk mX11_isPulled 1 := ⟨tb_in (i := 1709) (by decide +kernel) rfl, tb_in (i := 133) (by decide +kernel) rfl, ⟨by decide, by decide⟩, by decide +kernel⟩
theorem mv_X11_isPulled : MVk mX11_isPulled := ⟨tb_in (i := 1708) (by decide +kernel) rfl, tb_in (i := 89) (by decide +kernel) rfl⟩
theorem mo_X11_canAct : MOk mX11_canAct 3 := ⟨tb_in (i := 1615) (by decide +kernel) rfl, tb_in (i := 133) (by decide +kernel) rfl, ⟨by decide, by decide⟩, by decide +kernel⟩
theorem mv_X11_canAct : MVk mX11_canAct := ⟨tb_in (i := 1614) (by decide +kernel) rfl, tb_in (i := 66) (by decide +kernel) rfl⟩
theorem mo_X11_does : MOk mX11_does 3 := ⟨tb_in (i := 1635) (by decide +kernel) rfl, tb_in (i := 133) (by decide +kernel) rfl, ⟨by decide, by decide⟩, by decide +kernel⟩
theorem mv_X11_does : MVk mX11_does := ⟨tb_in (i := 1634) (by decide +kernel) rfl, tb_in (i := 71) (by decide +kernel) rfl⟩
theorem mo_X11_act : MOk mX11_act 3 := ⟨tb_in (i := 1611) (by decide +kernel) rfl, tb_in (i := 133) (by decide +kernel) rfl, ⟨by decide, by decide⟩, by decide +kernel⟩
theorem mv_X11_act : MVk mX11_act := ⟨tb_in (i := 1609) (by decide +kernel) rfl, tb_in (i := 1610) (by decide +kernel) rfl⟩
theorem mo_X11_comesDue : MOk mX11_comesDue 1 := ⟨tb_in (i := 1721) (by decide +kernel) rfl, tb_in (i := 133) (by decide +kernel) rfl, ⟨by decide, by decide⟩, by decide +kernel⟩
theorem mv_X11_comesDue : MVk mX11_comesDue := ⟨tb_in (i := 1720) (by decide +kernel) rfl, tb_in (i := 91) (by decide +kernel) rfl⟩
theorem mo_X11_goesBy : MOk mX11_goesBy 0 := ⟨tb_in (i := 1717) (by decide +kernel) rfl, tb_in (i := 133) (by decide +kernel) rfl, ⟨by decide, by decide⟩, by decide +kernel⟩
theorem mv_X11_goesBy : MVk mX11_goesBy := ⟨tb_in (i := 1716) (by decide +kernel) rfl, tb_in (i := 90) (by decide +kernel) rfl⟩
theorem mo_X11_days : MOk mX11_days 1 := ⟨tb_in (i := 1713) (by decide +kernel) rfl, tb_in (i := 133) (by decide +kernel) rfl, ⟨by decide, by decide⟩, by decide +kernel⟩
theorem mv_X11_days : MVk mX11_days := ⟨tb_in (i := 1711) (by decide +kernel) rfl, tb_in (i := 1712) (by decide +kernel) rfl⟩
theorem mo_X11_leftTo : MOk mX11_leftTo 1 := ⟨tb_in (i := 1733) (by decide +kernel) rfl, tb_in (i := 133) (by decide +kernel) rfl, ⟨by decide, by decide⟩, by decide +kernel⟩
theorem mv_X11_leftTo : MVk mX11_leftTo := ⟨tb_in (i := 1732) (by decide +kernel) rfl, tb_in (i := 93) (by decide +kernel) rfl⟩
theorem mo_X11_leastDue : MOk mX11_leastDue 1 := ⟨tb_in (i := 1737) (by decide +kernel) rfl, tb_in (i := 133) (by decide +kernel) rfl, ⟨by decide, by decide⟩, by decide +kernel⟩
theorem mv_X11_leastDue : MVk mX11_leastDue := ⟨tb_in (i := 1736) (by decide +kernel) rfl, tb_in (i := 94) (by decide +kernel) rfl⟩
theorem mo_X11_of : MOk mX11_of 2 := ⟨tb_in (i := 1729) (by decide +kernel) rfl, tb_in (i := 133) (by decide +kernel) rfl, ⟨by decide, by decide⟩, by decide +kernel⟩
theorem mv_X11_of : MVk mX11_of := ⟨tb_in (i := 1727) (by decide +kernel) rfl, tb_in (i := 1728) (by decide +kernel) rfl⟩
theorem mo_X11_clothOf : MOk mX11_clothOf 2 := ⟨tb_in (i := 1742) (by decide +kernel) rfl, tb_in (i := 133) (by decide +kernel) rfl, ⟨by decide, by decide⟩, by decide +kernel⟩
theorem mv_X11_clothOf : MVk mX11_clothOf := ⟨tb_in (i := 1740) (by decide +kernel) rfl, tb_in (i := 1741) (by decide +kernel) rfl⟩
theorem mo_X11_thingOf : MOk mX11_thingOf 2 := ⟨tb_in (i := 1746) (by decide +kernel) rfl, tb_in (i := 133) (by decide +kernel) rfl, ⟨by decide, by decide⟩, by decide +kernel⟩
theorem mv_X11_thingOf : MVk mX11_thingOf := ⟨tb_in (i := 1744) (by decide +kernel) rfl, tb_in (i := 1745) (by decide +kernel) rfl⟩
theorem mo_X11_book : MOk mX11_book 2 := ⟨tb_in (i := 1750) (by decide +kernel) rfl, tb_in (i := 133) (by decide +kernel) rfl, ⟨by decide, by decide⟩, by decide +kernel⟩
theorem mv_X11_book : MVk mX11_book := ⟨tb_in (i := 1748) (by decide +kernel) rfl, tb_in (i := 1749) (by decide +kernel) rfl⟩
theorem mo_X11_sumOf : MOk mX11_sumOf 2 := ⟨tb_in (i := 1762) (by decide +kernel) rfl, tb_in (i := 133) (by decide +kernel) rfl, ⟨by decide, by decide⟩, by decide +kernel⟩
theorem mv_X11_sumOf : MVk mX11_sumOf := ⟨tb_in (i := 1761) (by decide +kernel) rfl, tb_in (i := 96) (by decide +kernel) rfl⟩
theorem mo_X11_allKnots : MOk mX11_allKnots 0 := ⟨tb_in (i := 1766) (by decide +kernel) rfl, tb_in (i := 133) (by decide +kernel) rfl, ⟨by decide, by decide⟩, by decide +kernel⟩
theorem mv_X11_allKnots : MVk mX11_allKnots := ⟨tb_in (i := 1765) (by decide +kernel) rfl, tb_in (i := 97) (by decide +kernel) rfl⟩
theorem mo_X11_goes : MOk mX11_goes 2 := ⟨tb_in (i := 1754) (by decide +kernel) rfl, tb_in (i := 133) (by decide +kernel) rfl, ⟨by decide, by decide⟩, by decide +kernel⟩
theorem mv_X11_goes : MVk mX11_goes := ⟨tb_in (i := 1752) (by decide +kernel) rfl, tb_in (i := 1753) (by decide +kernel) rfl⟩
theorem mo_X11_fate : MOk mX11_fate 1 := ⟨tb_in (i := 1774) (by decide +kernel) rfl, tb_in (i := 133) (by decide +kernel) rfl, ⟨by decide, by decide⟩, by decide +kernel⟩
theorem mv_X11_fate : MVk mX11_fate := ⟨tb_in (i := 1772) (by decide +kernel) rfl, tb_in (i := 1773) (by decide +kernel) rfl⟩
theorem mo_X11_crossing : MOk mX11_crossing 1 := ⟨tb_in (i := 1778) (by decide +kernel) rfl, tb_in (i := 133) (by decide +kernel) rfl, ⟨by decide, by decide⟩, by decide +kernel⟩
theorem mv_X11_crossing : MVk mX11_crossing := ⟨tb_in (i := 1776) (by decide +kernel) rfl, tb_in (i := 1777) (by decide +kernel) rfl⟩
theorem mo_X11_braid : MOk mX11_braid 1 := ⟨tb_in (i := 1782) (by decide +kernel) rfl, tb_in (i := 133) (by decide +kernel) rfl, ⟨by decide, by decide⟩, by decide +kernel⟩
theorem mv_X11_braid : MVk mX11_braid := ⟨tb_in (i := 1780) (by decide +kernel) rfl, tb_in (i := 1781) (by decide +kernel) rfl⟩
theorem mo_X11_takesOrder : MOk mX11_takesOrder 1 := ⟨tb_in (i := 1790) (by decide +kernel) rfl, tb_in (i := 133) (by decide +kernel) rfl, ⟨by decide, by decide⟩, by decide +kernel⟩
theorem mv_X11_takesOrder : MVk mX11_takesOrder := ⟨tb_in (i := 1789) (by decide +kernel) rfl, tb_in (i := 99) (by decide +kernel) rfl⟩
theorem mo_X11_numberOfOrder : MOk mX11_numberOfOrder 0 := ⟨tb_in (i := 1798) (by decide +kernel) rfl, tb_in (i := 133) (by decide +kernel) rfl, ⟨by decide, by decide⟩, by decide +kernel⟩
theorem mv_X11_numberOfOrder : MVk mX11_numberOfOrder := ⟨tb_in (i := 1797) (by decide +kernel) rfl, tb_in (i := 101) (by decide +kernel) rfl⟩
theorem mo_X11_takesNumber : MOk mX11_takesNumber 1 := ⟨tb_in (i := 1802) (by decide +kernel) rfl, tb_in (i := 133) (by decide +kernel) rfl, ⟨by decide, by decide⟩, by decide +kernel⟩
theorem mv_X11_takesNumber : MVk mX11_takesNumber := ⟨tb_in (i := 1801) (by decide +kernel) rfl, tb_in (i := 102) (by decide +kernel) rfl⟩
theorem mo_X11_turnsFirst : MOk mX11_turnsFirst 1 := ⟨tb_in (i := 1806) (by decide +kernel) rfl, tb_in (i := 133) (by decide +kernel) rfl, ⟨by decide, by decide⟩, by decide +kernel⟩
theorem mv_X11_turnsFirst : MVk mX11_turnsFirst := ⟨tb_in (i := 1805) (by decide +kernel) rfl, tb_in (i := 103) (by decide +kernel) rfl⟩
theorem mo_X11_fewestTurnings : MOk mX11_fewestTurnings 0 := ⟨tb_in (i := 1794) (by decide +kernel) rfl, tb_in (i := 133) (by decide +kernel) rfl, ⟨by decide, by decide⟩, by decide +kernel⟩
theorem mv_X11_fewestTurnings : MVk mX11_fewestTurnings := ⟨tb_in (i := 1793) (by decide +kernel) rfl, tb_in (i := 100) (by decide +kernel) rfl⟩
theorem mo_X11_turnings : MOk mX11_turnings 2 := ⟨tb_in (i := 1786) (by decide +kernel) rfl, tb_in (i := 133) (by decide +kernel) rfl, ⟨by decide, by decide⟩, by decide +kernel⟩
theorem mv_X11_turnings : MVk mX11_turnings := ⟨tb_in (i := 1784) (by decide +kernel) rfl, tb_in (i := 1785) (by decide +kernel) rfl⟩
theorem mo_X11_folds : MOk mX11_folds 2 := ⟨tb_in (i := 1814) (by decide +kernel) rfl, tb_in (i := 133) (by decide +kernel) rfl, ⟨by decide, by decide⟩, by decide +kernel⟩
theorem mv_X11_folds : MVk mX11_folds := ⟨tb_in (i := 1813) (by decide +kernel) rfl, tb_in (i := 104) (by decide +kernel) rfl⟩
theorem mo_X11_strip : MOk mX11_strip 3 := ⟨tb_in (i := 1810) (by decide +kernel) rfl, tb_in (i := 133) (by decide +kernel) rfl, ⟨by decide, by decide⟩, by decide +kernel⟩
theorem mv_X11_strip : MVk mX11_strip := ⟨tb_in (i := 1808) (by decide +kernel) rfl, tb_in (i := 1809) (by decide +kernel) rfl⟩
theorem mo_X11_answer : MOk mX11_answer 1 := ⟨tb_in (i := 1818) (by decide +kernel) rfl, tb_in (i := 133) (by decide +kernel) rfl, ⟨by decide, by decide⟩, by decide +kernel⟩
theorem mv_X11_answer : MVk mX11_answer := ⟨tb_in (i := 1816) (by decide +kernel) rfl, tb_in (i := 1817) (by decide +kernel) rfl⟩
theorem mo_X11_boxes : MOk mX11_boxes 1 := ⟨tb_in (i := 1822) (by decide +kernel) rfl, tb_in (i := 133) (by decide +kernel) rfl, ⟨by decide, by decide⟩, by decide +kernel⟩
theorem mv_X11_boxes : MVk mX11_boxes := ⟨tb_in (i := 1820) (by decide +kernel) rfl, tb_in (i := 1821) (by decide +kernel) rfl⟩
theorem mo_X11_piles : MOk mX11_piles 2 := ⟨tb_in (i := 1826) (by decide +kernel) rfl, tb_in (i := 133) (by decide +kernel) rfl, ⟨by decide, by decide⟩, by decide +kernel⟩
theorem mv_X11_piles : MVk mX11_piles := ⟨tb_in (i := 1824) (by decide +kernel) rfl, tb_in (i := 1825) (by decide +kernel) rfl⟩
theorem mo_X11_dealt : MOk mX11_dealt 1 := ⟨tb_in (i := 1830) (by decide +kernel) rfl, tb_in (i := 133) (by decide +kernel) rfl, ⟨by decide, by decide⟩, by decide +kernel⟩
theorem mv_X11_dealt : MVk mX11_dealt := ⟨tb_in (i := 1828) (by decide +kernel) rfl, tb_in (i := 1829) (by decide +kernel) rfl⟩
theorem mo_X11_key : MOk mX11_key 1 := ⟨tb_in (i := 1834) (by decide +kernel) rfl, tb_in (i := 133) (by decide +kernel) rfl, ⟨by decide, by decide⟩, by decide +kernel⟩
theorem mv_X11_key : MVk mX11_key := ⟨tb_in (i := 1832) (by decide +kernel) rfl, tb_in (i := 1833) (by decide +kernel) rfl⟩
theorem mo_X11_looksFor : MOk mX11_looksFor 2 := ⟨tb_in (i := 1842) (by decide +kernel) rfl, tb_in (i := 133) (by decide +kernel) rfl, ⟨by decide, by decide⟩, by decide +kernel⟩
theorem mv_X11_looksFor : MVk mX11_looksFor := ⟨tb_in (i := 1841) (by decide +kernel) rfl, tb_in (i := 105) (by decide +kernel) rfl⟩
theorem mo_X11_table : MOk mX11_table 3 := ⟨tb_in (i := 1838) (by decide +kernel) rfl, tb_in (i := 133) (by decide +kernel) rfl, ⟨by decide, by decide⟩, by decide +kernel⟩
theorem mv_X11_table : MVk mX11_table := ⟨tb_in (i := 1836) (by decide +kernel) rfl, tb_in (i := 1837) (by decide +kernel) rfl⟩
theorem mo_X11_ask : MOk mX11_ask 1 := ⟨tb_in (i := 1846) (by decide +kernel) rfl, tb_in (i := 133) (by decide +kernel) rfl, ⟨by decide, by decide⟩, by decide +kernel⟩
theorem mv_X11_ask : MVk mX11_ask := ⟨tb_in (i := 1844) (by decide +kernel) rfl, tb_in (i := 1845) (by decide +kernel) rfl⟩
theorem mo_X11_askedWhen : MOk mX11_askedWhen 3 := ⟨tb_in (i := 1862) (by decide +kernel) rfl, tb_in (i := 133) (by decide +kernel) rfl, ⟨by decide, by decide⟩, by decide +kernel⟩
theorem mv_X11_askedWhen : MVk mX11_askedWhen := ⟨tb_in (i := 1861) (by decide +kernel) rfl, tb_in (i := 108) (by decide +kernel) rfl⟩
theorem mo_X11_goesOut : MOk mX11_goesOut 3 := ⟨tb_in (i := 1858) (by decide +kernel) rfl, tb_in (i := 133) (by decide +kernel) rfl, ⟨by decide, by decide⟩, by decide +kernel⟩
theorem mv_X11_goesOut : MVk mX11_goesOut := ⟨tb_in (i := 1857) (by decide +kernel) rfl, tb_in (i := 107) (by decide +kernel) rfl⟩
theorem mo_X11_pages : MOk mX11_pages 2 := ⟨tb_in (i := 1850) (by decide +kernel) rfl, tb_in (i := 133) (by decide +kernel) rfl, ⟨by decide, by decide⟩, by decide +kernel⟩
theorem mv_X11_pages : MVk mX11_pages := ⟨tb_in (i := 1848) (by decide +kernel) rfl, tb_in (i := 1849) (by decide +kernel) rfl⟩
theorem mo_X11_casesOf : MOk mX11_casesOf 1 := ⟨tb_in (i := 1875) (by decide +kernel) rfl, tb_in (i := 133) (by decide +kernel) rfl, ⟨by decide, by decide⟩, by decide +kernel⟩
theorem mv_X11_casesOf : MVk mX11_casesOf := ⟨tb_in (i := 1874) (by decide +kernel) rfl, tb_in (i := 110) (by decide +kernel) rfl⟩
theorem mo_X11_isSide : MOk mX11_isSide 2 := ⟨tb_in (i := 1871) (by decide +kernel) rfl, tb_in (i := 133) (by decide +kernel) rfl, ⟨by decide, by decide⟩, by decide +kernel⟩
theorem mv_X11_isSide : MVk mX11_isSide := ⟨tb_in (i := 1870) (by decide +kernel) rfl, tb_in (i := 109) (by decide +kernel) rfl⟩
theorem mo_X11_truth : MOk mX11_truth 2 := ⟨tb_in (i := 1866) (by decide +kernel) rfl, tb_in (i := 133) (by decide +kernel) rfl, ⟨by decide, by decide⟩, by decide +kernel⟩
theorem mv_X11_truth : MVk mX11_truth := ⟨tb_in (i := 1864) (by decide +kernel) rfl, tb_in (i := 1865) (by decide +kernel) rfl⟩
theorem mo_X11_meetsOf : MOk mX11_meetsOf 3 := ⟨tb_in (i := 1883) (by decide +kernel) rfl, tb_in (i := 133) (by decide +kernel) rfl, ⟨by decide, by decide⟩, by decide +kernel⟩
theorem mv_X11_meetsOf : MVk mX11_meetsOf := ⟨tb_in (i := 1882) (by decide +kernel) rfl, tb_in (i := 111) (by decide +kernel) rfl⟩
theorem mo_X11_rounds : MOk mX11_rounds 3 := ⟨tb_in (i := 1879) (by decide +kernel) rfl, tb_in (i := 133) (by decide +kernel) rfl, ⟨by decide, by decide⟩, by decide +kernel⟩
theorem mv_X11_rounds : MVk mX11_rounds := ⟨tb_in (i := 1877) (by decide +kernel) rfl, tb_in (i := 1878) (by decide +kernel) rfl⟩
theorem mo_X11_meets : MOk mX11_meets 3 := ⟨tb_in (i := 1887) (by decide +kernel) rfl, tb_in (i := 133) (by decide +kernel) rfl, ⟨by decide, by decide⟩, by decide +kernel⟩
theorem mv_X11_meets : MVk mX11_meets := ⟨tb_in (i := 1885) (by decide +kernel) rfl, tb_in (i := 1886) (by decide +kernel) rfl⟩
theorem mo_X11_rows : MOk mX11_rows 2 := ⟨tb_in (i := 1891) (by decide +kernel) rfl, tb_in (i := 133) (by decide +kernel) rfl, ⟨by decide, by decide⟩, by decide +kernel⟩
theorem mv_X11_rows : MVk mX11_rows := ⟨tb_in (i := 1889) (by decide +kernel) rfl, tb_in (i := 1890) (by decide +kernel) rfl⟩
theorem mo_X11_digit : MOk mX11_digit 1 := ⟨tb_in (i := 1895) (by decide +kernel) rfl, tb_in (i := 133) (by decide +kernel) rfl, ⟨by decide, by decide⟩, by decide +kernel⟩
theorem mv_X11_digit : MVk mX11_digit := ⟨tb_in (i := 1893) (by decide +kernel) rfl, tb_in (i := 1894) (by decide +kernel) rfl⟩
theorem mo_X11_choicesOf : MOk mX11_choicesOf 1 := ⟨tb_in (i := 1907) (by decide +kernel) rfl, tb_in (i := 133) (by decide +kernel) rfl, ⟨by decide, by decide⟩, by decide +kernel⟩
theorem mv_X11_choicesOf : MVk mX11_choicesOf := ⟨tb_in (i := 1906) (by decide +kernel) rfl, tb_in (i := 113) (by decide +kernel) rfl⟩
theorem mo_X11_waysFrom : MOk mX11_waysFrom 1 := ⟨tb_in (i := 1903) (by decide +kernel) rfl, tb_in (i := 133) (by decide +kernel) rfl, ⟨by decide, by decide⟩, by decide +kernel⟩
theorem mv_X11_waysFrom : MVk mX11_waysFrom := ⟨tb_in (i := 1902) (by decide +kernel) rfl, tb_in (i := 112) (by decide +kernel) rfl⟩
theorem mo_X11_spelt : MOk mX11_spelt 2 := ⟨tb_in (i := 1899) (by decide +kernel) rfl, tb_in (i := 133) (by decide +kernel) rfl, ⟨by decide, by decide⟩, by decide +kernel⟩
theorem mv_X11_spelt : MVk mX11_spelt := ⟨tb_in (i := 1897) (by decide +kernel) rfl, tb_in (i := 1898) (by decide +kernel) rfl⟩
theorem mo_X11_areThree : MOk mX11_areThree 1 := ⟨tb_in (i := 1915) (by decide +kernel) rfl, tb_in (i := 133) (by decide +kernel) rfl, ⟨by decide, by decide⟩, by decide +kernel⟩
theorem mv_X11_areThree : MVk mX11_areThree := ⟨tb_in (i := 1914) (by decide +kernel) rfl, tb_in (i := 114) (by decide +kernel) rfl⟩
theorem mo_X11_goodFilling : MOk mX11_goodFilling 2 := ⟨tb_in (i := 1919) (by decide +kernel) rfl, tb_in (i := 133) (by decide +kernel) rfl, ⟨by decide, by decide⟩, by decide +kernel⟩
theorem mv_X11_goodFilling : MVk mX11_goodFilling := ⟨tb_in (i := 1918) (by decide +kernel) rfl, tb_in (i := 115) (by decide +kernel) rfl⟩
theorem mo_X11_game : MOk mX11_game 2 := ⟨tb_in (i := 1911) (by decide +kernel) rfl, tb_in (i := 133) (by decide +kernel) rfl, ⟨by decide, by decide⟩, by decide +kernel⟩
theorem mv_X11_game : MVk mX11_game := ⟨tb_in (i := 1909) (by decide +kernel) rfl, tb_in (i := 1910) (by decide +kernel) rfl⟩
theorem mo_X11_keeps : MOk mX11_keeps 1 := ⟨tb_in (i := 1927) (by decide +kernel) rfl, tb_in (i := 133) (by decide +kernel) rfl, ⟨by decide, by decide⟩, by decide +kernel⟩
theorem mv_X11_keeps : MVk mX11_keeps := ⟨tb_in (i := 1926) (by decide +kernel) rfl, tb_in (i := 116) (by decide +kernel) rfl⟩
theorem mo_X11_keepsLaw : MOk mX11_keepsLaw 0 := ⟨tb_in (i := 1935) (by decide +kernel) rfl, tb_in (i := 133) (by decide +kernel) rfl, ⟨by decide, by decide⟩, by decide +kernel⟩
theorem mv_X11_keepsLaw : MVk mX11_keepsLaw := ⟨tb_in (i := 1934) (by decide +kernel) rfl, tb_in (i := 118) (by decide +kernel) rfl⟩
theorem mo_X11_keepsTold : MOk mX11_keepsTold 0 := ⟨tb_in (i := 1931) (by decide +kernel) rfl, tb_in (i := 133) (by decide +kernel) rfl, ⟨by decide, by decide⟩, by decide +kernel⟩
theorem mv_X11_keepsTold : MVk mX11_keepsTold := ⟨tb_in (i := 1930) (by decide +kernel) rfl, tb_in (i := 117) (by decide +kernel) rfl⟩
theorem mo_X11_image : MOk mX11_image 1 := ⟨tb_in (i := 1923) (by decide +kernel) rfl, tb_in (i := 133) (by decide +kernel) rfl, ⟨by decide, by decide⟩, by decide +kernel⟩
theorem mv_X11_image : MVk mX11_image := ⟨tb_in (i := 1921) (by decide +kernel) rfl, tb_in (i := 1922) (by decide +kernel) rfl⟩
theorem mo_X11_setThatIs : MOk mX11_setThatIs 1 := ⟨tb_in (i := 1943) (by decide +kernel) rfl, tb_in (i := 133) (by decide +kernel) rfl, ⟨by decide, by decide⟩, by decide +kernel⟩
theorem mv_X11_setThatIs : MVk mX11_setThatIs := ⟨tb_in (i := 1942) (by decide +kernel) rfl, tb_in (i := 119) (by decide +kernel) rfl⟩
theorem mo_X11_look : MOk mX11_look 1 := ⟨tb_in (i := 1939) (by decide +kernel) rfl, tb_in (i := 133) (by decide +kernel) rfl, ⟨by decide, by decide⟩, by decide +kernel⟩
theorem mv_X11_look : MVk mX11_look := ⟨tb_in (i := 1937) (by decide +kernel) rfl, tb_in (i := 1938) (by decide +kernel) rfl⟩
theorem mo_J6_bitCount_0f7a4 : MOk mJ6_bitCount_0f7a4 1 := ⟨tb_in (i := 624) (by decide +kernel) rfl, tb_in (i := 135) (by decide +kernel) rfl, ⟨by decide, by decide⟩, by decide +kernel⟩
theorem ms_J6_bitCount_0f7a4 : Cond.static (mY mJ6_bitCount_0f7a4) ∈ tb := tb_in (i := 623) (by decide +kernel) rfl
theorem mo_J9_floorMod_7cf53 : MOk mJ9_floorMod_7cf53 2 := ⟨tb_in (i := 1117) (by decide +kernel) rfl, tb_in (i := 128) (by decide +kernel) rfl, ⟨by decide, by decide⟩, by decide +kernel⟩
theorem ms_J9_floorMod_7cf53 : Cond.static (mY mJ9_floorMod_7cf53) ∈ tb := tb_in (i := 1116) (by decide +kernel) rfl
theorem mo_J9_abs_0f7a4 : MOk mJ9_abs_0f7a4 1 := ⟨tb_in (i := 974) (by decide +kernel) rfl, tb_in (i := 128) (by decide +kernel) rfl, ⟨by decide, by decide⟩, by decide +kernel⟩
theorem ms_J9_abs_0f7a4 : Cond.static (mY mJ9_abs_0f7a4) ∈ tb := tb_in (i := 973) (by decide +kernel) rfl
theorem mo_J9_max_7cf53 : MOk mJ9_max_7cf53 2 := ⟨tb_in (i := 337) (by decide +kernel) rfl, tb_in (i := 128) (by decide +kernel) rfl, ⟨by decide, by decide⟩, by decide +kernel⟩
theorem ms_J9_max_7cf53 : Cond.static (mY mJ9_max_7cf53) ∈ tb := tb_in (i := 336) (by decide +kernel) rfl
theorem mo_J9_min_7cf53 : MOk mJ9_min_7cf53 2 := ⟨tb_in (i := 651) (by decide +kernel) rfl, tb_in (i := 128) (by decide +kernel) rfl, ⟨by decide, by decide⟩, by decide +kernel⟩
theorem ms_J9_min_7cf53 : Cond.static (mY mJ9_min_7cf53) ∈ tb := tb_in (i := 650) (by decide +kernel) rfl
theorem mo_J7_fill_53178 : MOk mJ7_fill_53178 2 := ⟨tb_in (i := 1053) (by decide +kernel) rfl, tb_in (i := 140) (by decide +kernel) rfl, ⟨by decide, by decide⟩, by decide +kernel⟩
theorem ms_J7_fill_53178 : Cond.static (mY mJ7_fill_53178) ∈ tb := tb_in (i := 1052) (by decide +kernel) rfl
