-- the methods: a program laid these rows
noncomputable abbrev iX0_init : pm_I := (RX0, cX0_init, 1, none, true, 1, 21)
noncomputable abbrev iX0_forget : pm_I := (RX0, cX0_forget, 1, none, false, 0, 0)
noncomputable abbrev iX0_play : pm_I := (RX0, cX0_play, 4, none, false, 0, 0)
noncomputable abbrev iX0_perform : pm_I := (RX0, cX0_perform, 3, some .int, false, 4, 88)
noncomputable abbrev iX0_enter : pm_I := (RX0, cX0_enter, 2, none, false, 0, 0)
noncomputable abbrev iX0_thinks : pm_I := (RX0, cX0_thinks, 3, some .int, false, 1, 21)
noncomputable abbrev iX0_asks : pm_I := (RX0, cX0_asks, 3, some .int, false, 2, 43)
noncomputable abbrev iX0_parts : pm_I := (RX0, cX0_parts, 4, some .int, false, 2, 43)
noncomputable abbrev iX0_writes : pm_I := (RX0, cX0_writes, 3, some .int, false, 3, 66)
noncomputable abbrev iX1_init : pm_I := (RX1, cX1_init, 1, none, true, 2, 46)
noncomputable abbrev iX1_begin : pm_I := (RX1, cX1_begin, 1, none, false, 1, 26)
noncomputable abbrev iX1_become : pm_I := (RX1, cX1_become, 2, none, false, 1, 26)
noncomputable abbrev iX1_add : pm_I := (RX1, cX1_add, 5, none, false, 0, 0)
noncomputable abbrev iX1_has : pm_I := (RX1, cX1_has, 2, some .boolean, false, 1, 22)
noncomputable abbrev iX1_sumOf : pm_I := (RX1, cX1_sumOf, 4, some .int, false, 0, 0)
noncomputable abbrev iX1_countOf : pm_I := (RX1, cX1_countOf, 4, some .int, false, 0, 0)
noncomputable abbrev iX1_readySet : pm_I := (RX1, cX1_readySet, 3, some .int, false, 2, 44)
noncomputable abbrev iX1_thinking : pm_I := (RX1, cX1_thinking, 4, some .int, false, 1, 21)
noncomputable abbrev iX1_needing : pm_I := (RX1, cX1_needing, 4, some .int, false, 1, 21)
noncomputable abbrev iX1_saying : pm_I := (RX1, cX1_saying, 4, some .int, false, 1, 21)
noncomputable abbrev iX1_isUsing : pm_I := (RX1, cX1_isUsing, 3, some .boolean, false, 1, 21)
noncomputable abbrev iX1_passWeek : pm_I := (RX1, cX1_passWeek, 3, some .int, false, 3, 67)
noncomputable abbrev iX1_passWeekByDraws : pm_I := (RX1, cX1_passWeekByDraws, 2, some .int, false, 4, 89)
noncomputable abbrev iX1_draw : pm_I := (RX1, cX1_draw, 1, some .int, false, 0, 0)
noncomputable abbrev iX1_think : pm_I := (RX1, cX1_think, 2, none, false, 2, 44)
noncomputable abbrev iX1_handOut : pm_I := (RX1, cX1_handOut, 4, none, false, 1, 25)
noncomputable abbrev iX1_keenest : pm_I := (RX1, cX1_keenest, 6, some .int, false, 0, 0)
noncomputable abbrev iX1_speak : pm_I := (RX1, cX1_speak, 4, some .int, false, 2, 44)
noncomputable abbrev iX2_init : pm_I := (RX2, cX2_init, 1, none, true, 1, 21)
noncomputable abbrev iX2_begin : pm_I := (RX2, cX2_begin, 4, none, false, 0, 0)
noncomputable abbrev iX3_init : pm_I := (RX3, cX3_init, 1, none, true, 1, 21)
noncomputable abbrev iX3_holdPerson : pm_I := (RX3, cX3_holdPerson, 2, none, false, 0, 0)
noncomputable abbrev iX3_holdRow : pm_I := (RX3, cX3_holdRow, 2, none, false, 0, 0)
noncomputable abbrev iX4_init : pm_I := (RX4, cX4_init, 1, none, true, 1, 21)
noncomputable abbrev iX4_take : pm_I := (RX4, cX4_take, 5, some .boolean, false, 0, 0)
noncomputable abbrev iX4_tell : pm_I := (RX4, cX4_tell, 3, some .int, false, 8, 177)
noncomputable abbrev iX4_cut : pm_I := (RX4, cX4_cut, 4, none, false, 7, 154)
noncomputable abbrev iX4_cutName : pm_I := (RX4, cX4_cutName, 3, some .int, false, 6, 132)
noncomputable abbrev iX4_cutNumber : pm_I := (RX4, cX4_cutNumber, 4, some .int, false, 2, 42)
noncomputable abbrev iX4_addToken : pm_I := (RX4, cX4_addToken, 4, none, false, 0, 0)
noncomputable abbrev iX4_wordAt : pm_I := (RX4, cX4_wordAt, 4, some .int, false, 5, 109)
noncomputable abbrev iX4_isSpelt : pm_I := (RX4, cX4_isSpelt, 5, some .boolean, false, 4, 85)
noncomputable abbrev iX4_spelling : pm_I := (RX4, cX4_spelling, 1, some (.object "java/lang/String"), false, 0, 0)
noncomputable abbrev iX4_isLetter : pm_I := (RX4, cX4_isLetter, 1, some .boolean, false, 1, 22)
noncomputable abbrev iX4_isDigit : pm_I := (RX4, cX4_isDigit, 1, some .boolean, false, 1, 22)
noncomputable abbrev iX4_tellOne : pm_I := (RX4, cX4_tellOne, 4, none, false, 4, 89)
noncomputable abbrev iX4_tellPerson : pm_I := (RX4, cX4_tellPerson, 6, none, false, 3, 64)
noncomputable abbrev iX4_numberBehind : pm_I := (RX4, cX4_numberBehind, 3, some .int, false, 2, 42)
noncomputable abbrev iX4_numberUpTo : pm_I := (RX4, cX4_numberUpTo, 3, some .int, false, 1, 20)
noncomputable abbrev iX4_passSemicolon : pm_I := (RX4, cX4_passSemicolon, 1, none, false, 1, 20)
noncomputable abbrev iX4_fail : pm_I := (RX4, cX4_fail, 1, none, false, 0, 0)
noncomputable abbrev iX5_init : pm_I := (RX5, cX5_init, 2, none, true, 3, 66)
noncomputable abbrev iX5_feed : pm_I := (RX5, cX5_feed, 4, some .int, false, 1, 24)
noncomputable abbrev iX5_post : pm_I := (RX5, cX5_post, 2, some .int, false, 9, 199)
noncomputable abbrev iX5_set : pm_I := (RX5, cX5_set, 4, some .int, false, 1, 22)
noncomputable abbrev iX5_lawOf : pm_I := (RX5, cX5_lawOf, 2, some .int, false, 1, 22)
noncomputable abbrev iX5_person : pm_I := (RX5, cX5_person, 5, some .int, false, 2, 42)
noncomputable abbrev iX5_of : pm_I := (RX5, cX5_of, 3, some .int, false, 2, 43)
noncomputable abbrev iX5_does : pm_I := (RX5, cX5_does, 3, some .int, false, 2, 44)
noncomputable abbrev iX5_mind : pm_I := (RX5, cX5_mind, 5, some .int, false, 2, 43)
noncomputable abbrev iX5_thought : pm_I := (RX5, cX5_thought, 4, some .int, false, 2, 43)
noncomputable abbrev iX5_own : pm_I := (RX5, cX5_own, 4, some .int, false, 2, 43)
noncomputable abbrev iX5_give : pm_I := (RX5, cX5_give, 3, some .int, false, 2, 43)
noncomputable abbrev iX5_weeks : pm_I := (RX5, cX5_weeks, 3, some .int, false, 4, 89)
noncomputable abbrev iX5_seed : pm_I := (RX5, cX5_seed, 3, some .int, false, 0, 0)
noncomputable abbrev iX5_week : pm_I := (RX5, cX5_week, 1, some .int, false, 5, 110)
noncomputable abbrev iX5_poor : pm_I := (RX5, cX5_poor, 7, some .int, false, 5, 113)
noncomputable abbrev iX5_state : pm_I := (RX5, cX5_state, 2, some .int, false, 3, 66)
noncomputable abbrev iX5_words : pm_I := (RX5, cX5_words, 2, some .int, false, 5, 113)
noncomputable abbrev iX5_gets : pm_I := (RX5, cX5_gets, 4, some .int, false, 4, 89)
noncomputable abbrev iX5_idle : pm_I := (RX5, cX5_idle, 3, some .int, false, 4, 89)
noncomputable abbrev iX5_vanFor : pm_I := (RX5, cX5_vanFor, 5, some .int, false, 5, 113)
noncomputable abbrev iX5_kindFor : pm_I := (RX5, cX5_kindFor, 8, some .int, false, 5, 113)
noncomputable abbrev iX5_thoughtFor : pm_I := (RX5, cX5_thoughtFor, 6, some .int, false, 4, 89)
noncomputable abbrev iX5_needed : pm_I := (RX5, cX5_needed, 6, some .int, false, 5, 113)
noncomputable abbrev iX5_fewest : pm_I := (RX5, cX5_fewest, 6, some .int, false, 5, 113)
noncomputable abbrev iX5_packed : pm_I := (RX5, cX5_packed, 4, some .int, false, 2, 49)
noncomputable abbrev iX5_fits : pm_I := (RX5, cX5_fits, 8, some .int, false, 5, 115)
noncomputable abbrev iX5_odds : pm_I := (RX5, cX5_odds, 10, some .long, false, 2, 58)
noncomputable abbrev iX5_hope : pm_I := (RX5, cX5_hope, 3, some .long, false, 2, 58)
noncomputable abbrev iX5_prove : pm_I := (RX5, cX5_prove, 6, some .int, false, 4, 89)
noncomputable abbrev iX5_row : pm_I := (RX5, cX5_row, 3, some .int, false, 2, 44)
noncomputable abbrev iX5_alterRow : pm_I := (RX5, cX5_alterRow, 5, some .int, false, 2, 44)
noncomputable abbrev iX5_judge : pm_I := (RX5, cX5_judge, 5, some .int, false, 4, 89)
noncomputable abbrev iX5_minds : pm_I := (RX5, cX5_minds, 8, some .int, false, 2, 43)
noncomputable abbrev iX5_sheet : pm_I := (RX5, cX5_sheet, 4, some .int, false, 2, 42)
noncomputable abbrev iX5_put : pm_I := (RX5, cX5_put, 5, some .int, false, 2, 42)
noncomputable abbrev iX5_item : pm_I := (RX5, cX5_item, 5, some .int, false, 2, 42)
noncomputable abbrev iX5_shelf : pm_I := (RX5, cX5_shelf, 4, some .int, false, 2, 43)
noncomputable abbrev iX5_taken : pm_I := (RX5, cX5_taken, 6, some .int, false, 2, 43)
noncomputable abbrev iX5_act : pm_I := (RX5, cX5_act, 7, some .int, false, 5, 110)
noncomputable abbrev iX5_trace : pm_I := (RX5, cX5_trace, 2, some .int, false, 1, 22)
noncomputable abbrev iX5_many : pm_I := (RX5, cX5_many, 2, some .int, false, 3, 66)
noncomputable abbrev iX5_keep : pm_I := (RX5, cX5_keep, 1, some .int, false, 2, 47)
noncomputable abbrev iX5_again : pm_I := (RX5, cX5_again, 1, some .int, false, 2, 47)
noncomputable abbrev iX5_isWithin : pm_I := (RX5, cX5_isWithin, 3, some .boolean, false, 0, 0)
noncomputable abbrev iX5_isKind : pm_I := (RX5, cX5_isKind, 1, some .boolean, false, 1, 22)
noncomputable abbrev iX5_isPlace : pm_I := (RX5, cX5_isPlace, 1, some .boolean, false, 1, 22)
noncomputable abbrev iX5_isUnder : pm_I := (RX5, cX5_isUnder, 2, some .boolean, false, 0, 0)
noncomputable abbrev iX5_isInRow : pm_I := (RX5, cX5_isInRow, 3, some .boolean, false, 1, 22)
noncomputable abbrev iX5_trial : pm_I := (RX5, cX5_trial, 1, some (.object "BlankRations$Office"), false, 2, 47)
noncomputable abbrev iX5_wordsBy : pm_I := (RX5, cX5_wordsBy, 5, some .int, false, 4, 89)
noncomputable abbrev iX5_isTold : pm_I := (RX5, cX5_isTold, 7, some .boolean, false, 4, 89)
noncomputable abbrev iX5_leastPacking : pm_I := (RX5, cX5_leastPacking, 9, some .int, false, 1, 21)
noncomputable abbrev iX5_choices : pm_I := (RX5, cX5_choices, 5, some .long, false, 0, 0)
noncomputable abbrev iX5_partOf : pm_I := (RX5, cX5_partOf, 9, some .long, false, 1, 30)
noncomputable abbrev iX5_commonDivisor : pm_I := (RX5, cX5_commonDivisor, 11, some .long, false, 0, 0)
noncomputable abbrev iX5_narrowed : pm_I := (RX5, cX5_narrowed, 2, some .long, false, 0, 0)
noncomputable abbrev iX6_init : pm_I := (RX6, cX6_init, 1, none, true, 1, 21)
noncomputable abbrev iX6_begins : pm_I := (RX6, cX6_begins, 2, none, false, 0, 0)
noncomputable abbrev iX6_in : pm_I := (RX6, cX6_in, 3, some .boolean, false, 0, 0)
noncomputable abbrev iX6_held : pm_I := (RX6, cX6_held, 3, some .int, false, 0, 0)
noncomputable abbrev iX6_moveAll : pm_I := (RX6, cX6_moveAll, 3, none, false, 0, 0)
noncomputable abbrev iX6_isOne : pm_I := (RX6, cX6_isOne, 2, some .boolean, false, 1, 22)
noncomputable abbrev iX6_its : pm_I := (RX6, cX6_its, 3, some .int, false, 0, 0)
noncomputable abbrev iX6_sets : pm_I := (RX6, cX6_sets, 4, none, false, 0, 0)
noncomputable abbrev iX6_becomes : pm_I := (RX6, cX6_becomes, 4, some .int, false, 0, 0)
noncomputable abbrev iX6_ones : pm_I := (RX6, cX6_ones, 3, some .int, false, 0, 0)
noncomputable abbrev iX6_feed : pm_I := (RX6, cX6_feed, 5, some .int, false, 1, 22)
noncomputable abbrev iX6_byteAt : pm_I := (RX6, cX6_byteAt, 2, some .int, false, 0, 0)
noncomputable abbrev iX6_isLetter : pm_I := (RX6, cX6_isLetter, 1, some .boolean, false, 1, 22)
noncomputable abbrev iX6_isDigit : pm_I := (RX6, cX6_isDigit, 1, some .boolean, false, 1, 22)
noncomputable abbrev iX6_advance : pm_I := (RX6, cX6_advance, 2, none, false, 2, 42)
noncomputable abbrev iX6_isWord : pm_I := (RX6, cX6_isWord, 3, some .boolean, false, 0, 0)
noncomputable abbrev iX6_isMark : pm_I := (RX6, cX6_isMark, 2, some .boolean, false, 0, 0)
noncomputable abbrev iX6_kindHere : pm_I := (RX6, cX6_kindHere, 1, some .int, false, 1, 22)
noncomputable abbrev iX6_lawHere : pm_I := (RX6, cX6_lawHere, 1, some .int, false, 1, 22)
noncomputable abbrev iX6_wantNumber : pm_I := (RX6, cX6_wantNumber, 4, some .int, false, 3, 63)
noncomputable abbrev iX6_wantEnd : pm_I := (RX6, cX6_wantEnd, 1, none, false, 3, 63)
noncomputable abbrev iX6_mayWant : pm_I := (RX6, cX6_mayWant, 4, some .int, false, 4, 86)
noncomputable abbrev iX6_wantOne : pm_I := (RX6, cX6_wantOne, 6, none, false, 5, 109)
noncomputable abbrev iX6_wantClause : pm_I := (RX6, cX6_wantClause, 2, none, false, 6, 134)
noncomputable abbrev iX6_post : pm_I := (RX6, cX6_post, 1, some .int, false, 7, 155)
noncomputable abbrev iX6_mostOf : pm_I := (RX6, cX6_mostOf, 1, some .int, false, 0, 0)
noncomputable abbrev iX6_set : pm_I := (RX6, cX6_set, 3, some .int, false, 1, 23)
noncomputable abbrev iX6_lawOf : pm_I := (RX6, cX6_lawOf, 2, some .int, false, 1, 22)
noncomputable abbrev iX6_isKind : pm_I := (RX6, cX6_isKind, 2, some .boolean, false, 1, 22)
noncomputable abbrev iX6_person : pm_I := (RX6, cX6_person, 6, some .int, false, 2, 43)
noncomputable abbrev iX6_of : pm_I := (RX6, cX6_of, 3, some .int, false, 2, 43)
noncomputable abbrev iX6_thinksOf : pm_I := (RX6, cX6_thinksOf, 2, some .int, false, 1, 22)
noncomputable abbrev iX6_needs : pm_I := (RX6, cX6_needs, 2, some .int, false, 1, 22)
noncomputable abbrev iX6_says : pm_I := (RX6, cX6_says, 3, some .int, false, 1, 22)
noncomputable abbrev iX6_isUsed : pm_I := (RX6, cX6_isUsed, 3, some .boolean, false, 1, 22)
noncomputable abbrev iX6_does : pm_I := (RX6, cX6_does, 3, some .int, false, 2, 44)
noncomputable abbrev iX6_mind : pm_I := (RX6, cX6_mind, 4, some .int, false, 2, 43)
noncomputable abbrev iX6_thought : pm_I := (RX6, cX6_thought, 3, some .int, false, 2, 43)
noncomputable abbrev iX6_own : pm_I := (RX6, cX6_own, 3, some .int, false, 2, 43)
noncomputable abbrev iX6_give : pm_I := (RX6, cX6_give, 3, some .int, false, 2, 43)
noncomputable abbrev iX6_isReady : pm_I := (RX6, cX6_isReady, 2, some .boolean, false, 2, 43)
noncomputable abbrev iX6_readySet : pm_I := (RX6, cX6_readySet, 3, some .int, false, 3, 64)
noncomputable abbrev iX6_next : pm_I := (RX6, cX6_next, 4, some .int, false, 3, 64)
noncomputable abbrev iX6_pageGoes : pm_I := (RX6, cX6_pageGoes, 2, none, false, 4, 87)
noncomputable abbrev iX6_writes : pm_I := (RX6, cX6_writes, 3, some .int, false, 2, 44)
noncomputable abbrev iX6_weekGoes : pm_I := (RX6, cX6_weekGoes, 3, some .int, false, 5, 108)
noncomputable abbrev iX6_sumOf : pm_I := (RX6, cX6_sumOf, 4, some .int, false, 1, 22)
noncomputable abbrev iX6_weeks : pm_I := (RX6, cX6_weeks, 3, some .int, false, 6, 130)
noncomputable abbrev iX6_drawn : pm_I := (RX6, cX6_drawn, 1, some .int, false, 0, 0)
noncomputable abbrev iX6_seed : pm_I := (RX6, cX6_seed, 2, some .int, false, 1, 23)
noncomputable abbrev iX6_weekByDraws : pm_I := (RX6, cX6_weekByDraws, 2, some .int, false, 6, 130)
noncomputable abbrev iX6_week : pm_I := (RX6, cX6_week, 1, some .int, false, 7, 151)
noncomputable abbrev iX6_poor : pm_I := (RX6, cX6_poor, 6, some .int, false, 7, 153)
noncomputable abbrev iX6_state : pm_I := (RX6, cX6_state, 2, some .int, false, 4, 86)
noncomputable abbrev iX6_wordsBehind : pm_I := (RX6, cX6_wordsBehind, 4, some .int, false, 6, 130)
noncomputable abbrev iX6_words : pm_I := (RX6, cX6_words, 2, some .int, false, 7, 153)
noncomputable abbrev iX6_gets : pm_I := (RX6, cX6_gets, 4, some .int, false, 6, 130)
noncomputable abbrev iX6_idle : pm_I := (RX6, cX6_idle, 2, some .int, false, 6, 130)
noncomputable abbrev iX6_vanFor : pm_I := (RX6, cX6_vanFor, 5, some .int, false, 7, 153)
noncomputable abbrev iX6_kindFor : pm_I := (RX6, cX6_kindFor, 7, some .int, false, 7, 153)
noncomputable abbrev iX6_thoughtFor : pm_I := (RX6, cX6_thoughtFor, 6, some .int, false, 6, 130)
noncomputable abbrev iX6_needed : pm_I := (RX6, cX6_needed, 6, some .int, false, 7, 153)
noncomputable abbrev iX6_fewest : pm_I := (RX6, cX6_fewest, 6, some .int, false, 7, 153)
noncomputable abbrev iX6_thoughtOf : pm_I := (RX6, cX6_thoughtOf, 4, some .int, false, 1, 22)
noncomputable abbrev iX6_packed : pm_I := (RX6, cX6_packed, 5, some .int, false, 2, 45)
noncomputable abbrev iX6_isSo : pm_I := (RX6, cX6_isSo, 5, some .boolean, false, 6, 130)
noncomputable abbrev iX6_fits : pm_I := (RX6, cX6_fits, 8, some .int, false, 7, 154)
noncomputable abbrev iX6_lowest : pm_I := (RX6, cX6_lowest, 11, some .long, false, 0, 0)
noncomputable abbrev iX6_powerOf : pm_I := (RX6, cX6_powerOf, 5, some .long, false, 0, 0)
noncomputable abbrev iX6_odds : pm_I := (RX6, cX6_odds, 7, some .long, false, 1, 30)
noncomputable abbrev iX6_hope : pm_I := (RX6, cX6_hope, 3, some .long, false, 1, 30)
noncomputable abbrev iX6_findRows : pm_I := (RX6, cX6_findRows, 5, none, false, 6, 130)
noncomputable abbrev iX6_prove : pm_I := (RX6, cX6_prove, 4, some .int, false, 7, 154)
noncomputable abbrev iX6_isRow : pm_I := (RX6, cX6_isRow, 3, some .boolean, false, 1, 22)
noncomputable abbrev iX6_row : pm_I := (RX6, cX6_row, 3, some .int, false, 2, 44)
noncomputable abbrev iX6_alterRow : pm_I := (RX6, cX6_alterRow, 5, some .int, false, 2, 44)
noncomputable abbrev iX6_judge : pm_I := (RX6, cX6_judge, 3, some .int, false, 7, 154)
noncomputable abbrev iX6_minds : pm_I := (RX6, cX6_minds, 7, some .int, false, 2, 43)
noncomputable abbrev iX6_isShelf : pm_I := (RX6, cX6_isShelf, 1, some .boolean, false, 1, 22)
noncomputable abbrev iX6_sheet : pm_I := (RX6, cX6_sheet, 5, some .int, false, 2, 42)
noncomputable abbrev iX6_put : pm_I := (RX6, cX6_put, 4, some .int, false, 2, 42)
noncomputable abbrev iX6_lacksSort : pm_I := (RX6, cX6_lacksSort, 3, some .int, false, 0, 0)
noncomputable abbrev iX6_item : pm_I := (RX6, cX6_item, 5, some .int, false, 2, 42)
noncomputable abbrev iX6_isHeld : pm_I := (RX6, cX6_isHeld, 3, some .boolean, false, 2, 43)
noncomputable abbrev iX6_shelf : pm_I := (RX6, cX6_shelf, 4, some .int, false, 3, 65)
noncomputable abbrev iX6_kindOn : pm_I := (RX6, cX6_kindOn, 2, some .int, false, 2, 43)
noncomputable abbrev iX6_isUnder : pm_I := (RX6, cX6_isUnder, 2, some .boolean, false, 0, 0)
noncomputable abbrev iX6_taken : pm_I := (RX6, cX6_taken, 4, some .int, false, 3, 64)
noncomputable abbrev iX6_ran : pm_I := (RX6, cX6_ran, 2, none, false, 0, 0)
noncomputable abbrev iX6_plainThinks : pm_I := (RX6, cX6_plainThinks, 2, some .int, false, 1, 21)
noncomputable abbrev iX6_widowThinks : pm_I := (RX6, cX6_widowThinks, 2, some .int, false, 2, 42)
noncomputable abbrev iX6_thinksIt : pm_I := (RX6, cX6_thinksIt, 2, some .int, false, 3, 63)
noncomputable abbrev iX6_plainAsks : pm_I := (RX6, cX6_plainAsks, 2, some .int, false, 4, 84)
noncomputable abbrev iX6_asksIt : pm_I := (RX6, cX6_asksIt, 3, some .int, false, 5, 105)
noncomputable abbrev iX6_plainParts : pm_I := (RX6, cX6_plainParts, 2, some .int, false, 1, 21)
noncomputable abbrev iX6_partsIt : pm_I := (RX6, cX6_partsIt, 3, some .int, false, 4, 84)
noncomputable abbrev iX6_plainWrites : pm_I := (RX6, cX6_plainWrites, 2, some .int, false, 6, 127)
noncomputable abbrev iX6_writesIt : pm_I := (RX6, cX6_writesIt, 3, some .int, false, 7, 148)
noncomputable abbrev iX6_act : pm_I := (RX6, cX6_act, 6, some .int, false, 8, 170)
noncomputable abbrev iX6_trace : pm_I := (RX6, cX6_trace, 2, some .int, false, 1, 22)
noncomputable abbrev iX6_manyWith : pm_I := (RX6, cX6_manyWith, 4, some .int, false, 1, 22)
noncomputable abbrev iX6_many : pm_I := (RX6, cX6_many, 2, some .int, false, 4, 86)
noncomputable abbrev iX6_keep : pm_I := (RX6, cX6_keep, 1, some .int, false, 1, 22)
noncomputable abbrev iX6_again : pm_I := (RX6, cX6_again, 1, some .int, false, 1, 22)
noncomputable abbrev iJ6_bitCount_0f7a4 : pm_I := (RJ6, cJ6_bitCount_0f7a4, 1, some .int, false, 0, 0)
noncomputable abbrev iJ0_length_8abf5 : pm_I := (RJ0, cJ0_length_8abf5, 1, some .int, false, 1, 20)
noncomputable abbrev iJ0_charAt_5068e : pm_I := (RJ0, cJ0_charAt_5068e, 2, some .char, false, 3, 64)
noncomputable abbrev iJ0_coder_7d493 : pm_I := (RJ0, cJ0_coder_7d493, 1, some .byte, false, 0, 0)
noncomputable abbrev iJ0_isLatin1_aae02 : pm_I := (RJ0, cJ0_isLatin1_aae02, 1, some .boolean, false, 0, 0)
noncomputable abbrev iJ0_checkIndex_df160 : pm_I := (RJ0, cJ0_checkIndex_df160, 2, none, false, 1, 22)
noncomputable abbrev iJ1_charAt_3b067 : pm_I := (RJ1, cJ1_charAt_3b067, 2, some .char, false, 2, 43)
noncomputable abbrev iJ3_checkIndex_8e157 : pm_I := (RJ3, cJ3_checkIndex_8e157, 3, some .int, false, 0, 0)
noncomputable abbrev iL_law : pm_I := (RL, cL_law, 4, some .boolean, false, 10, 220)
def pT_chk (t : MethodName × pm_I) : Bool := plainName t.1.cls && (decide (t.1.cls = t.2.1) && (!t.2.2.2.2.2.1 || decide (t.1.name = "<init>")))
theorem pT_nd {m : Nat} {a b : Nat → MethodName × pm_I} (ha : ∀ k : Nat, pT_chk (a k) = true) (hb : ∀ k : Nat, pT_chk (b k) = true) : ∀ k : Nat, pT_chk (pm_nd m a b k) = true := by
  intro k
  unfold pm_nd
  cases Nat.ble k m
  · exact hb k
  · exact ha k
theorem pT_lf {i : Nat} {v d : MethodName × pm_I} (hv : pT_chk v = true) (hd : pT_chk d = true) : ∀ k : Nat, pT_chk (pm_lf d i v k) = true := by
  intro k
  unfold pm_lf
  cases Nat.beq k i
  · exact hd
  · exact hv
noncomputable def pm_T0 : pm_T := (pm_nd 109 (pm_nd 54 (pm_nd 26 (pm_nd 12 (pm_nd 5 (pm_nd 2 (pm_nd 0 (pm_lf (yX0_init, iX0_init) 0 (yX0_init, iX0_init)) (pm_nd 1 (pm_lf (yX0_init, iX0_init) 1 (yX0_forget, iX0_forget)) (pm_lf (yX0_init, iX0_init) 2 (yX0_play, iX0_play)))) (pm_nd 3 (pm_lf (yX0_init, iX0_init) 3 (yX0_perform, iX0_perform)) (pm_nd 4 (pm_lf (yX0_init, iX0_init) 4 (yX0_enter, iX0_enter)) (pm_lf (yX0_init, iX0_init) 5 (yX0_thinks, iX0_thinks))))) (pm_nd 8 (pm_nd 6 (pm_lf (yX0_init, iX0_init) 6 (yX0_asks, iX0_asks)) (pm_nd 7 (pm_lf (yX0_init, iX0_init) 7 (yX0_parts, iX0_parts)) (pm_lf (yX0_init, iX0_init) 8 (yX0_writes, iX0_writes)))) (pm_nd 10 (pm_nd 9 (pm_lf (yX0_init, iX0_init) 9 (yX1_init, iX1_init)) (pm_lf (yX0_init, iX0_init) 10 (yX1_begin, iX1_begin))) (pm_nd 11 (pm_lf (yX0_init, iX0_init) 11 (yX1_become, iX1_become)) (pm_lf (yX0_init, iX0_init) 12 (yX1_add, iX1_add)))))) (pm_nd 19 (pm_nd 15 (pm_nd 13 (pm_lf (yX0_init, iX0_init) 13 (yX1_has, iX1_has)) (pm_nd 14 (pm_lf (yX0_init, iX0_init) 14 (yX1_sumOf, iX1_sumOf)) (pm_lf (yX0_init, iX0_init) 15 (yX1_countOf, iX1_countOf)))) (pm_nd 17 (pm_nd 16 (pm_lf (yX0_init, iX0_init) 16 (yX1_readySet, iX1_readySet)) (pm_lf (yX0_init, iX0_init) 17 (yX1_thinking, iX1_thinking))) (pm_nd 18 (pm_lf (yX0_init, iX0_init) 18 (yX1_needing, iX1_needing)) (pm_lf (yX0_init, iX0_init) 19 (yX1_saying, iX1_saying))))) (pm_nd 22 (pm_nd 20 (pm_lf (yX0_init, iX0_init) 20 (yX1_isUsing, iX1_isUsing)) (pm_nd 21 (pm_lf (yX0_init, iX0_init) 21 (yX1_passWeek, iX1_passWeek)) (pm_lf (yX0_init, iX0_init) 22 (yX1_passWeekByDraws, iX1_passWeekByDraws)))) (pm_nd 24 (pm_nd 23 (pm_lf (yX0_init, iX0_init) 23 (yX1_draw, iX1_draw)) (pm_lf (yX0_init, iX0_init) 24 (yX1_think, iX1_think))) (pm_nd 25 (pm_lf (yX0_init, iX0_init) 25 (yX1_handOut, iX1_handOut)) (pm_lf (yX0_init, iX0_init) 26 (yX1_keenest, iX1_keenest))))))) (pm_nd 40 (pm_nd 33 (pm_nd 29 (pm_nd 27 (pm_lf (yX0_init, iX0_init) 27 (yX1_speak, iX1_speak)) (pm_nd 28 (pm_lf (yX0_init, iX0_init) 28 (yX2_init, iX2_init)) (pm_lf (yX0_init, iX0_init) 29 (yX2_begin, iX2_begin)))) (pm_nd 31 (pm_nd 30 (pm_lf (yX0_init, iX0_init) 30 (yX3_init, iX3_init)) (pm_lf (yX0_init, iX0_init) 31 (yX3_holdPerson, iX3_holdPerson))) (pm_nd 32 (pm_lf (yX0_init, iX0_init) 32 (yX3_holdRow, iX3_holdRow)) (pm_lf (yX0_init, iX0_init) 33 (yX4_init, iX4_init))))) (pm_nd 36 (pm_nd 34 (pm_lf (yX0_init, iX0_init) 34 (yX4_take, iX4_take)) (pm_nd 35 (pm_lf (yX0_init, iX0_init) 35 (yX4_tell, iX4_tell)) (pm_lf (yX0_init, iX0_init) 36 (yX4_cut, iX4_cut)))) (pm_nd 38 (pm_nd 37 (pm_lf (yX0_init, iX0_init) 37 (yX4_cutName, iX4_cutName)) (pm_lf (yX0_init, iX0_init) 38 (yX4_cutNumber, iX4_cutNumber))) (pm_nd 39 (pm_lf (yX0_init, iX0_init) 39 (yX4_addToken, iX4_addToken)) (pm_lf (yX0_init, iX0_init) 40 (yX4_wordAt, iX4_wordAt)))))) (pm_nd 47 (pm_nd 43 (pm_nd 41 (pm_lf (yX0_init, iX0_init) 41 (yX4_isSpelt, iX4_isSpelt)) (pm_nd 42 (pm_lf (yX0_init, iX0_init) 42 (yX4_spelling, iX4_spelling)) (pm_lf (yX0_init, iX0_init) 43 (yX4_isLetter, iX4_isLetter)))) (pm_nd 45 (pm_nd 44 (pm_lf (yX0_init, iX0_init) 44 (yX4_isDigit, iX4_isDigit)) (pm_lf (yX0_init, iX0_init) 45 (yX4_tellOne, iX4_tellOne))) (pm_nd 46 (pm_lf (yX0_init, iX0_init) 46 (yX4_tellPerson, iX4_tellPerson)) (pm_lf (yX0_init, iX0_init) 47 (yX4_numberBehind, iX4_numberBehind))))) (pm_nd 50 (pm_nd 48 (pm_lf (yX0_init, iX0_init) 48 (yX4_numberUpTo, iX4_numberUpTo)) (pm_nd 49 (pm_lf (yX0_init, iX0_init) 49 (yX4_passSemicolon, iX4_passSemicolon)) (pm_lf (yX0_init, iX0_init) 50 (yX4_fail, iX4_fail)))) (pm_nd 52 (pm_nd 51 (pm_lf (yX0_init, iX0_init) 51 (yX5_init, iX5_init)) (pm_lf (yX0_init, iX0_init) 52 (yX5_feed, iX5_feed))) (pm_nd 53 (pm_lf (yX0_init, iX0_init) 53 (yX5_post, iX5_post)) (pm_lf (yX0_init, iX0_init) 54 (yX5_set, iX5_set)))))))) (pm_nd 81 (pm_nd 67 (pm_nd 60 (pm_nd 57 (pm_nd 55 (pm_lf (yX0_init, iX0_init) 55 (yX5_lawOf, iX5_lawOf)) (pm_nd 56 (pm_lf (yX0_init, iX0_init) 56 (yX5_person, iX5_person)) (pm_lf (yX0_init, iX0_init) 57 (yX5_of, iX5_of)))) (pm_nd 58 (pm_lf (yX0_init, iX0_init) 58 (yX5_does, iX5_does)) (pm_nd 59 (pm_lf (yX0_init, iX0_init) 59 (yX5_mind, iX5_mind)) (pm_lf (yX0_init, iX0_init) 60 (yX5_thought, iX5_thought))))) (pm_nd 63 (pm_nd 61 (pm_lf (yX0_init, iX0_init) 61 (yX5_own, iX5_own)) (pm_nd 62 (pm_lf (yX0_init, iX0_init) 62 (yX5_give, iX5_give)) (pm_lf (yX0_init, iX0_init) 63 (yX5_weeks, iX5_weeks)))) (pm_nd 65 (pm_nd 64 (pm_lf (yX0_init, iX0_init) 64 (yX5_seed, iX5_seed)) (pm_lf (yX0_init, iX0_init) 65 (yX5_week, iX5_week))) (pm_nd 66 (pm_lf (yX0_init, iX0_init) 66 (yX5_poor, iX5_poor)) (pm_lf (yX0_init, iX0_init) 67 (yX5_state, iX5_state)))))) (pm_nd 74 (pm_nd 70 (pm_nd 68 (pm_lf (yX0_init, iX0_init) 68 (yX5_words, iX5_words)) (pm_nd 69 (pm_lf (yX0_init, iX0_init) 69 (yX5_gets, iX5_gets)) (pm_lf (yX0_init, iX0_init) 70 (yX5_idle, iX5_idle)))) (pm_nd 72 (pm_nd 71 (pm_lf (yX0_init, iX0_init) 71 (yX5_vanFor, iX5_vanFor)) (pm_lf (yX0_init, iX0_init) 72 (yX5_kindFor, iX5_kindFor))) (pm_nd 73 (pm_lf (yX0_init, iX0_init) 73 (yX5_thoughtFor, iX5_thoughtFor)) (pm_lf (yX0_init, iX0_init) 74 (yX5_needed, iX5_needed))))) (pm_nd 77 (pm_nd 75 (pm_lf (yX0_init, iX0_init) 75 (yX5_fewest, iX5_fewest)) (pm_nd 76 (pm_lf (yX0_init, iX0_init) 76 (yX5_packed, iX5_packed)) (pm_lf (yX0_init, iX0_init) 77 (yX5_fits, iX5_fits)))) (pm_nd 79 (pm_nd 78 (pm_lf (yX0_init, iX0_init) 78 (yX5_odds, iX5_odds)) (pm_lf (yX0_init, iX0_init) 79 (yX5_hope, iX5_hope))) (pm_nd 80 (pm_lf (yX0_init, iX0_init) 80 (yX5_prove, iX5_prove)) (pm_lf (yX0_init, iX0_init) 81 (yX5_row, iX5_row))))))) (pm_nd 95 (pm_nd 88 (pm_nd 84 (pm_nd 82 (pm_lf (yX0_init, iX0_init) 82 (yX5_alterRow, iX5_alterRow)) (pm_nd 83 (pm_lf (yX0_init, iX0_init) 83 (yX5_judge, iX5_judge)) (pm_lf (yX0_init, iX0_init) 84 (yX5_minds, iX5_minds)))) (pm_nd 86 (pm_nd 85 (pm_lf (yX0_init, iX0_init) 85 (yX5_sheet, iX5_sheet)) (pm_lf (yX0_init, iX0_init) 86 (yX5_put, iX5_put))) (pm_nd 87 (pm_lf (yX0_init, iX0_init) 87 (yX5_item, iX5_item)) (pm_lf (yX0_init, iX0_init) 88 (yX5_shelf, iX5_shelf))))) (pm_nd 91 (pm_nd 89 (pm_lf (yX0_init, iX0_init) 89 (yX5_taken, iX5_taken)) (pm_nd 90 (pm_lf (yX0_init, iX0_init) 90 (yX5_act, iX5_act)) (pm_lf (yX0_init, iX0_init) 91 (yX5_trace, iX5_trace)))) (pm_nd 93 (pm_nd 92 (pm_lf (yX0_init, iX0_init) 92 (yX5_many, iX5_many)) (pm_lf (yX0_init, iX0_init) 93 (yX5_keep, iX5_keep))) (pm_nd 94 (pm_lf (yX0_init, iX0_init) 94 (yX5_again, iX5_again)) (pm_lf (yX0_init, iX0_init) 95 (yX5_isWithin, iX5_isWithin)))))) (pm_nd 102 (pm_nd 98 (pm_nd 96 (pm_lf (yX0_init, iX0_init) 96 (yX5_isKind, iX5_isKind)) (pm_nd 97 (pm_lf (yX0_init, iX0_init) 97 (yX5_isPlace, iX5_isPlace)) (pm_lf (yX0_init, iX0_init) 98 (yX5_isUnder, iX5_isUnder)))) (pm_nd 100 (pm_nd 99 (pm_lf (yX0_init, iX0_init) 99 (yX5_isInRow, iX5_isInRow)) (pm_lf (yX0_init, iX0_init) 100 (yX5_trial, iX5_trial))) (pm_nd 101 (pm_lf (yX0_init, iX0_init) 101 (yX5_wordsBy, iX5_wordsBy)) (pm_lf (yX0_init, iX0_init) 102 (yX5_isTold, iX5_isTold))))) (pm_nd 105 (pm_nd 103 (pm_lf (yX0_init, iX0_init) 103 (yX5_leastPacking, iX5_leastPacking)) (pm_nd 104 (pm_lf (yX0_init, iX0_init) 104 (yX5_choices, iX5_choices)) (pm_lf (yX0_init, iX0_init) 105 (yX5_partOf, iX5_partOf)))) (pm_nd 107 (pm_nd 106 (pm_lf (yX0_init, iX0_init) 106 (yX5_commonDivisor, iX5_commonDivisor)) (pm_lf (yX0_init, iX0_init) 107 (yX5_narrowed, iX5_narrowed))) (pm_nd 108 (pm_lf (yX0_init, iX0_init) 108 (yX6_init, iX6_init)) (pm_lf (yX0_init, iX0_init) 109 (yX6_begins, iX6_begins))))))))) (pm_nd 164 (pm_nd 136 (pm_nd 122 (pm_nd 115 (pm_nd 112 (pm_nd 110 (pm_lf (yX0_init, iX0_init) 110 (yX6_in, iX6_in)) (pm_nd 111 (pm_lf (yX0_init, iX0_init) 111 (yX6_held, iX6_held)) (pm_lf (yX0_init, iX0_init) 112 (yX6_moveAll, iX6_moveAll)))) (pm_nd 113 (pm_lf (yX0_init, iX0_init) 113 (yX6_isOne, iX6_isOne)) (pm_nd 114 (pm_lf (yX0_init, iX0_init) 114 (yX6_its, iX6_its)) (pm_lf (yX0_init, iX0_init) 115 (yX6_sets, iX6_sets))))) (pm_nd 118 (pm_nd 116 (pm_lf (yX0_init, iX0_init) 116 (yX6_becomes, iX6_becomes)) (pm_nd 117 (pm_lf (yX0_init, iX0_init) 117 (yX6_ones, iX6_ones)) (pm_lf (yX0_init, iX0_init) 118 (yX6_feed, iX6_feed)))) (pm_nd 120 (pm_nd 119 (pm_lf (yX0_init, iX0_init) 119 (yX6_byteAt, iX6_byteAt)) (pm_lf (yX0_init, iX0_init) 120 (yX6_isLetter, iX6_isLetter))) (pm_nd 121 (pm_lf (yX0_init, iX0_init) 121 (yX6_isDigit, iX6_isDigit)) (pm_lf (yX0_init, iX0_init) 122 (yX6_advance, iX6_advance)))))) (pm_nd 129 (pm_nd 125 (pm_nd 123 (pm_lf (yX0_init, iX0_init) 123 (yX6_isWord, iX6_isWord)) (pm_nd 124 (pm_lf (yX0_init, iX0_init) 124 (yX6_isMark, iX6_isMark)) (pm_lf (yX0_init, iX0_init) 125 (yX6_kindHere, iX6_kindHere)))) (pm_nd 127 (pm_nd 126 (pm_lf (yX0_init, iX0_init) 126 (yX6_lawHere, iX6_lawHere)) (pm_lf (yX0_init, iX0_init) 127 (yX6_wantNumber, iX6_wantNumber))) (pm_nd 128 (pm_lf (yX0_init, iX0_init) 128 (yX6_wantEnd, iX6_wantEnd)) (pm_lf (yX0_init, iX0_init) 129 (yX6_mayWant, iX6_mayWant))))) (pm_nd 132 (pm_nd 130 (pm_lf (yX0_init, iX0_init) 130 (yX6_wantOne, iX6_wantOne)) (pm_nd 131 (pm_lf (yX0_init, iX0_init) 131 (yX6_wantClause, iX6_wantClause)) (pm_lf (yX0_init, iX0_init) 132 (yX6_post, iX6_post)))) (pm_nd 134 (pm_nd 133 (pm_lf (yX0_init, iX0_init) 133 (yX6_mostOf, iX6_mostOf)) (pm_lf (yX0_init, iX0_init) 134 (yX6_set, iX6_set))) (pm_nd 135 (pm_lf (yX0_init, iX0_init) 135 (yX6_lawOf, iX6_lawOf)) (pm_lf (yX0_init, iX0_init) 136 (yX6_isKind, iX6_isKind))))))) (pm_nd 150 (pm_nd 143 (pm_nd 139 (pm_nd 137 (pm_lf (yX0_init, iX0_init) 137 (yX6_person, iX6_person)) (pm_nd 138 (pm_lf (yX0_init, iX0_init) 138 (yX6_of, iX6_of)) (pm_lf (yX0_init, iX0_init) 139 (yX6_thinksOf, iX6_thinksOf)))) (pm_nd 141 (pm_nd 140 (pm_lf (yX0_init, iX0_init) 140 (yX6_needs, iX6_needs)) (pm_lf (yX0_init, iX0_init) 141 (yX6_says, iX6_says))) (pm_nd 142 (pm_lf (yX0_init, iX0_init) 142 (yX6_isUsed, iX6_isUsed)) (pm_lf (yX0_init, iX0_init) 143 (yX6_does, iX6_does))))) (pm_nd 146 (pm_nd 144 (pm_lf (yX0_init, iX0_init) 144 (yX6_mind, iX6_mind)) (pm_nd 145 (pm_lf (yX0_init, iX0_init) 145 (yX6_thought, iX6_thought)) (pm_lf (yX0_init, iX0_init) 146 (yX6_own, iX6_own)))) (pm_nd 148 (pm_nd 147 (pm_lf (yX0_init, iX0_init) 147 (yX6_give, iX6_give)) (pm_lf (yX0_init, iX0_init) 148 (yX6_isReady, iX6_isReady))) (pm_nd 149 (pm_lf (yX0_init, iX0_init) 149 (yX6_readySet, iX6_readySet)) (pm_lf (yX0_init, iX0_init) 150 (yX6_next, iX6_next)))))) (pm_nd 157 (pm_nd 153 (pm_nd 151 (pm_lf (yX0_init, iX0_init) 151 (yX6_pageGoes, iX6_pageGoes)) (pm_nd 152 (pm_lf (yX0_init, iX0_init) 152 (yX6_writes, iX6_writes)) (pm_lf (yX0_init, iX0_init) 153 (yX6_weekGoes, iX6_weekGoes)))) (pm_nd 155 (pm_nd 154 (pm_lf (yX0_init, iX0_init) 154 (yX6_sumOf, iX6_sumOf)) (pm_lf (yX0_init, iX0_init) 155 (yX6_weeks, iX6_weeks))) (pm_nd 156 (pm_lf (yX0_init, iX0_init) 156 (yX6_drawn, iX6_drawn)) (pm_lf (yX0_init, iX0_init) 157 (yX6_seed, iX6_seed))))) (pm_nd 160 (pm_nd 158 (pm_lf (yX0_init, iX0_init) 158 (yX6_weekByDraws, iX6_weekByDraws)) (pm_nd 159 (pm_lf (yX0_init, iX0_init) 159 (yX6_week, iX6_week)) (pm_lf (yX0_init, iX0_init) 160 (yX6_poor, iX6_poor)))) (pm_nd 162 (pm_nd 161 (pm_lf (yX0_init, iX0_init) 161 (yX6_state, iX6_state)) (pm_lf (yX0_init, iX0_init) 162 (yX6_wordsBehind, iX6_wordsBehind))) (pm_nd 163 (pm_lf (yX0_init, iX0_init) 163 (yX6_words, iX6_words)) (pm_lf (yX0_init, iX0_init) 164 (yX6_gets, iX6_gets)))))))) (pm_nd 192 (pm_nd 178 (pm_nd 171 (pm_nd 167 (pm_nd 165 (pm_lf (yX0_init, iX0_init) 165 (yX6_idle, iX6_idle)) (pm_nd 166 (pm_lf (yX0_init, iX0_init) 166 (yX6_vanFor, iX6_vanFor)) (pm_lf (yX0_init, iX0_init) 167 (yX6_kindFor, iX6_kindFor)))) (pm_nd 169 (pm_nd 168 (pm_lf (yX0_init, iX0_init) 168 (yX6_thoughtFor, iX6_thoughtFor)) (pm_lf (yX0_init, iX0_init) 169 (yX6_needed, iX6_needed))) (pm_nd 170 (pm_lf (yX0_init, iX0_init) 170 (yX6_fewest, iX6_fewest)) (pm_lf (yX0_init, iX0_init) 171 (yX6_thoughtOf, iX6_thoughtOf))))) (pm_nd 174 (pm_nd 172 (pm_lf (yX0_init, iX0_init) 172 (yX6_packed, iX6_packed)) (pm_nd 173 (pm_lf (yX0_init, iX0_init) 173 (yX6_isSo, iX6_isSo)) (pm_lf (yX0_init, iX0_init) 174 (yX6_fits, iX6_fits)))) (pm_nd 176 (pm_nd 175 (pm_lf (yX0_init, iX0_init) 175 (yX6_lowest, iX6_lowest)) (pm_lf (yX0_init, iX0_init) 176 (yX6_powerOf, iX6_powerOf))) (pm_nd 177 (pm_lf (yX0_init, iX0_init) 177 (yX6_odds, iX6_odds)) (pm_lf (yX0_init, iX0_init) 178 (yX6_hope, iX6_hope)))))) (pm_nd 185 (pm_nd 181 (pm_nd 179 (pm_lf (yX0_init, iX0_init) 179 (yX6_findRows, iX6_findRows)) (pm_nd 180 (pm_lf (yX0_init, iX0_init) 180 (yX6_prove, iX6_prove)) (pm_lf (yX0_init, iX0_init) 181 (yX6_isRow, iX6_isRow)))) (pm_nd 183 (pm_nd 182 (pm_lf (yX0_init, iX0_init) 182 (yX6_row, iX6_row)) (pm_lf (yX0_init, iX0_init) 183 (yX6_alterRow, iX6_alterRow))) (pm_nd 184 (pm_lf (yX0_init, iX0_init) 184 (yX6_judge, iX6_judge)) (pm_lf (yX0_init, iX0_init) 185 (yX6_minds, iX6_minds))))) (pm_nd 188 (pm_nd 186 (pm_lf (yX0_init, iX0_init) 186 (yX6_isShelf, iX6_isShelf)) (pm_nd 187 (pm_lf (yX0_init, iX0_init) 187 (yX6_sheet, iX6_sheet)) (pm_lf (yX0_init, iX0_init) 188 (yX6_put, iX6_put)))) (pm_nd 190 (pm_nd 189 (pm_lf (yX0_init, iX0_init) 189 (yX6_lacksSort, iX6_lacksSort)) (pm_lf (yX0_init, iX0_init) 190 (yX6_item, iX6_item))) (pm_nd 191 (pm_lf (yX0_init, iX0_init) 191 (yX6_isHeld, iX6_isHeld)) (pm_lf (yX0_init, iX0_init) 192 (yX6_shelf, iX6_shelf))))))) (pm_nd 206 (pm_nd 199 (pm_nd 195 (pm_nd 193 (pm_lf (yX0_init, iX0_init) 193 (yX6_kindOn, iX6_kindOn)) (pm_nd 194 (pm_lf (yX0_init, iX0_init) 194 (yX6_isUnder, iX6_isUnder)) (pm_lf (yX0_init, iX0_init) 195 (yX6_taken, iX6_taken)))) (pm_nd 197 (pm_nd 196 (pm_lf (yX0_init, iX0_init) 196 (yX6_ran, iX6_ran)) (pm_lf (yX0_init, iX0_init) 197 (yX6_plainThinks, iX6_plainThinks))) (pm_nd 198 (pm_lf (yX0_init, iX0_init) 198 (yX6_widowThinks, iX6_widowThinks)) (pm_lf (yX0_init, iX0_init) 199 (yX6_thinksIt, iX6_thinksIt))))) (pm_nd 202 (pm_nd 200 (pm_lf (yX0_init, iX0_init) 200 (yX6_plainAsks, iX6_plainAsks)) (pm_nd 201 (pm_lf (yX0_init, iX0_init) 201 (yX6_asksIt, iX6_asksIt)) (pm_lf (yX0_init, iX0_init) 202 (yX6_plainParts, iX6_plainParts)))) (pm_nd 204 (pm_nd 203 (pm_lf (yX0_init, iX0_init) 203 (yX6_partsIt, iX6_partsIt)) (pm_lf (yX0_init, iX0_init) 204 (yX6_plainWrites, iX6_plainWrites))) (pm_nd 205 (pm_lf (yX0_init, iX0_init) 205 (yX6_writesIt, iX6_writesIt)) (pm_lf (yX0_init, iX0_init) 206 (yX6_act, iX6_act)))))) (pm_nd 213 (pm_nd 209 (pm_nd 207 (pm_lf (yX0_init, iX0_init) 207 (yX6_trace, iX6_trace)) (pm_nd 208 (pm_lf (yX0_init, iX0_init) 208 (yX6_manyWith, iX6_manyWith)) (pm_lf (yX0_init, iX0_init) 209 (yX6_many, iX6_many)))) (pm_nd 211 (pm_nd 210 (pm_lf (yX0_init, iX0_init) 210 (yX6_keep, iX6_keep)) (pm_lf (yX0_init, iX0_init) 211 (yX6_again, iX6_again))) (pm_nd 212 (pm_lf (yX0_init, iX0_init) 212 (yJ6_bitCount_0f7a4, iJ6_bitCount_0f7a4)) (pm_lf (yX0_init, iX0_init) 213 (yJ0_length_8abf5, iJ0_length_8abf5))))) (pm_nd 216 (pm_nd 214 (pm_lf (yX0_init, iX0_init) 214 (yJ0_charAt_5068e, iJ0_charAt_5068e)) (pm_nd 215 (pm_lf (yX0_init, iX0_init) 215 (yJ0_coder_7d493, iJ0_coder_7d493)) (pm_lf (yX0_init, iX0_init) 216 (yJ0_isLatin1_aae02, iJ0_isLatin1_aae02)))) (pm_nd 218 (pm_nd 217 (pm_lf (yX0_init, iX0_init) 217 (yJ0_checkIndex_df160, iJ0_checkIndex_df160)) (pm_lf (yX0_init, iX0_init) 218 (yJ1_charAt_3b067, iJ1_charAt_3b067))) (pm_nd 219 (pm_lf (yX0_init, iX0_init) 219 (yJ3_checkIndex_8e157, iJ3_checkIndex_8e157)) (pm_lf (yX0_init, iX0_init) 220 (yL_law, iL_law))))))))))
theorem pT_0 : pm_T0 0 = (yX0_init, iX0_init) := rfl
theorem pT_1 : pm_T0 1 = (yX0_forget, iX0_forget) := rfl
theorem pT_2 : pm_T0 2 = (yX0_play, iX0_play) := rfl
theorem pT_3 : pm_T0 3 = (yX0_perform, iX0_perform) := rfl
theorem pT_4 : pm_T0 4 = (yX0_enter, iX0_enter) := rfl
theorem pT_5 : pm_T0 5 = (yX0_thinks, iX0_thinks) := rfl
theorem pT_6 : pm_T0 6 = (yX0_asks, iX0_asks) := rfl
theorem pT_7 : pm_T0 7 = (yX0_parts, iX0_parts) := rfl
theorem pT_8 : pm_T0 8 = (yX0_writes, iX0_writes) := rfl
theorem pT_9 : pm_T0 9 = (yX1_init, iX1_init) := rfl
theorem pT_10 : pm_T0 10 = (yX1_begin, iX1_begin) := rfl
theorem pT_11 : pm_T0 11 = (yX1_become, iX1_become) := rfl
theorem pT_12 : pm_T0 12 = (yX1_add, iX1_add) := rfl
theorem pT_13 : pm_T0 13 = (yX1_has, iX1_has) := rfl
theorem pT_14 : pm_T0 14 = (yX1_sumOf, iX1_sumOf) := rfl
theorem pT_15 : pm_T0 15 = (yX1_countOf, iX1_countOf) := rfl
theorem pT_16 : pm_T0 16 = (yX1_readySet, iX1_readySet) := rfl
theorem pT_17 : pm_T0 17 = (yX1_thinking, iX1_thinking) := rfl
theorem pT_18 : pm_T0 18 = (yX1_needing, iX1_needing) := rfl
theorem pT_19 : pm_T0 19 = (yX1_saying, iX1_saying) := rfl
theorem pT_20 : pm_T0 20 = (yX1_isUsing, iX1_isUsing) := rfl
theorem pT_21 : pm_T0 21 = (yX1_passWeek, iX1_passWeek) := rfl
theorem pT_22 : pm_T0 22 = (yX1_passWeekByDraws, iX1_passWeekByDraws) := rfl
theorem pT_23 : pm_T0 23 = (yX1_draw, iX1_draw) := rfl
theorem pT_24 : pm_T0 24 = (yX1_think, iX1_think) := rfl
theorem pT_25 : pm_T0 25 = (yX1_handOut, iX1_handOut) := rfl
theorem pT_26 : pm_T0 26 = (yX1_keenest, iX1_keenest) := rfl
theorem pT_27 : pm_T0 27 = (yX1_speak, iX1_speak) := rfl
theorem pT_28 : pm_T0 28 = (yX2_init, iX2_init) := rfl
theorem pT_29 : pm_T0 29 = (yX2_begin, iX2_begin) := rfl
theorem pT_30 : pm_T0 30 = (yX3_init, iX3_init) := rfl
theorem pT_31 : pm_T0 31 = (yX3_holdPerson, iX3_holdPerson) := rfl
theorem pT_32 : pm_T0 32 = (yX3_holdRow, iX3_holdRow) := rfl
theorem pT_33 : pm_T0 33 = (yX4_init, iX4_init) := rfl
theorem pT_34 : pm_T0 34 = (yX4_take, iX4_take) := rfl
theorem pT_35 : pm_T0 35 = (yX4_tell, iX4_tell) := rfl
theorem pT_36 : pm_T0 36 = (yX4_cut, iX4_cut) := rfl
theorem pT_37 : pm_T0 37 = (yX4_cutName, iX4_cutName) := rfl
theorem pT_38 : pm_T0 38 = (yX4_cutNumber, iX4_cutNumber) := rfl
theorem pT_39 : pm_T0 39 = (yX4_addToken, iX4_addToken) := rfl
theorem pT_40 : pm_T0 40 = (yX4_wordAt, iX4_wordAt) := rfl
theorem pT_41 : pm_T0 41 = (yX4_isSpelt, iX4_isSpelt) := rfl
theorem pT_42 : pm_T0 42 = (yX4_spelling, iX4_spelling) := rfl
theorem pT_43 : pm_T0 43 = (yX4_isLetter, iX4_isLetter) := rfl
theorem pT_44 : pm_T0 44 = (yX4_isDigit, iX4_isDigit) := rfl
theorem pT_45 : pm_T0 45 = (yX4_tellOne, iX4_tellOne) := rfl
theorem pT_46 : pm_T0 46 = (yX4_tellPerson, iX4_tellPerson) := rfl
theorem pT_47 : pm_T0 47 = (yX4_numberBehind, iX4_numberBehind) := rfl
theorem pT_48 : pm_T0 48 = (yX4_numberUpTo, iX4_numberUpTo) := rfl
theorem pT_49 : pm_T0 49 = (yX4_passSemicolon, iX4_passSemicolon) := rfl
theorem pT_50 : pm_T0 50 = (yX4_fail, iX4_fail) := rfl
theorem pT_51 : pm_T0 51 = (yX5_init, iX5_init) := rfl
theorem pT_52 : pm_T0 52 = (yX5_feed, iX5_feed) := rfl
theorem pT_53 : pm_T0 53 = (yX5_post, iX5_post) := rfl
theorem pT_54 : pm_T0 54 = (yX5_set, iX5_set) := rfl
theorem pT_55 : pm_T0 55 = (yX5_lawOf, iX5_lawOf) := rfl
theorem pT_56 : pm_T0 56 = (yX5_person, iX5_person) := rfl
theorem pT_57 : pm_T0 57 = (yX5_of, iX5_of) := rfl
theorem pT_58 : pm_T0 58 = (yX5_does, iX5_does) := rfl
theorem pT_59 : pm_T0 59 = (yX5_mind, iX5_mind) := rfl
theorem pT_60 : pm_T0 60 = (yX5_thought, iX5_thought) := rfl
theorem pT_61 : pm_T0 61 = (yX5_own, iX5_own) := rfl
theorem pT_62 : pm_T0 62 = (yX5_give, iX5_give) := rfl
theorem pT_63 : pm_T0 63 = (yX5_weeks, iX5_weeks) := rfl
theorem pT_64 : pm_T0 64 = (yX5_seed, iX5_seed) := rfl
theorem pT_65 : pm_T0 65 = (yX5_week, iX5_week) := rfl
theorem pT_66 : pm_T0 66 = (yX5_poor, iX5_poor) := rfl
theorem pT_67 : pm_T0 67 = (yX5_state, iX5_state) := rfl
theorem pT_68 : pm_T0 68 = (yX5_words, iX5_words) := rfl
theorem pT_69 : pm_T0 69 = (yX5_gets, iX5_gets) := rfl
theorem pT_70 : pm_T0 70 = (yX5_idle, iX5_idle) := rfl
theorem pT_71 : pm_T0 71 = (yX5_vanFor, iX5_vanFor) := rfl
theorem pT_72 : pm_T0 72 = (yX5_kindFor, iX5_kindFor) := rfl
theorem pT_73 : pm_T0 73 = (yX5_thoughtFor, iX5_thoughtFor) := rfl
theorem pT_74 : pm_T0 74 = (yX5_needed, iX5_needed) := rfl
theorem pT_75 : pm_T0 75 = (yX5_fewest, iX5_fewest) := rfl
theorem pT_76 : pm_T0 76 = (yX5_packed, iX5_packed) := rfl
theorem pT_77 : pm_T0 77 = (yX5_fits, iX5_fits) := rfl
theorem pT_78 : pm_T0 78 = (yX5_odds, iX5_odds) := rfl
theorem pT_79 : pm_T0 79 = (yX5_hope, iX5_hope) := rfl
theorem pT_80 : pm_T0 80 = (yX5_prove, iX5_prove) := rfl
theorem pT_81 : pm_T0 81 = (yX5_row, iX5_row) := rfl
theorem pT_82 : pm_T0 82 = (yX5_alterRow, iX5_alterRow) := rfl
theorem pT_83 : pm_T0 83 = (yX5_judge, iX5_judge) := rfl
theorem pT_84 : pm_T0 84 = (yX5_minds, iX5_minds) := rfl
theorem pT_85 : pm_T0 85 = (yX5_sheet, iX5_sheet) := rfl
theorem pT_86 : pm_T0 86 = (yX5_put, iX5_put) := rfl
theorem pT_87 : pm_T0 87 = (yX5_item, iX5_item) := rfl
theorem pT_88 : pm_T0 88 = (yX5_shelf, iX5_shelf) := rfl
theorem pT_89 : pm_T0 89 = (yX5_taken, iX5_taken) := rfl
theorem pT_90 : pm_T0 90 = (yX5_act, iX5_act) := rfl
theorem pT_91 : pm_T0 91 = (yX5_trace, iX5_trace) := rfl
theorem pT_92 : pm_T0 92 = (yX5_many, iX5_many) := rfl
theorem pT_93 : pm_T0 93 = (yX5_keep, iX5_keep) := rfl
theorem pT_94 : pm_T0 94 = (yX5_again, iX5_again) := rfl
theorem pT_95 : pm_T0 95 = (yX5_isWithin, iX5_isWithin) := rfl
theorem pT_96 : pm_T0 96 = (yX5_isKind, iX5_isKind) := rfl
theorem pT_97 : pm_T0 97 = (yX5_isPlace, iX5_isPlace) := rfl
theorem pT_98 : pm_T0 98 = (yX5_isUnder, iX5_isUnder) := rfl
theorem pT_99 : pm_T0 99 = (yX5_isInRow, iX5_isInRow) := rfl
theorem pT_100 : pm_T0 100 = (yX5_trial, iX5_trial) := rfl
theorem pT_101 : pm_T0 101 = (yX5_wordsBy, iX5_wordsBy) := rfl
theorem pT_102 : pm_T0 102 = (yX5_isTold, iX5_isTold) := rfl
theorem pT_103 : pm_T0 103 = (yX5_leastPacking, iX5_leastPacking) := rfl
theorem pT_104 : pm_T0 104 = (yX5_choices, iX5_choices) := rfl
theorem pT_105 : pm_T0 105 = (yX5_partOf, iX5_partOf) := rfl
theorem pT_106 : pm_T0 106 = (yX5_commonDivisor, iX5_commonDivisor) := rfl
theorem pT_107 : pm_T0 107 = (yX5_narrowed, iX5_narrowed) := rfl
theorem pT_108 : pm_T0 108 = (yX6_init, iX6_init) := rfl
theorem pT_109 : pm_T0 109 = (yX6_begins, iX6_begins) := rfl
theorem pT_110 : pm_T0 110 = (yX6_in, iX6_in) := rfl
theorem pT_111 : pm_T0 111 = (yX6_held, iX6_held) := rfl
theorem pT_112 : pm_T0 112 = (yX6_moveAll, iX6_moveAll) := rfl
theorem pT_113 : pm_T0 113 = (yX6_isOne, iX6_isOne) := rfl
theorem pT_114 : pm_T0 114 = (yX6_its, iX6_its) := rfl
theorem pT_115 : pm_T0 115 = (yX6_sets, iX6_sets) := rfl
theorem pT_116 : pm_T0 116 = (yX6_becomes, iX6_becomes) := rfl
theorem pT_117 : pm_T0 117 = (yX6_ones, iX6_ones) := rfl
theorem pT_118 : pm_T0 118 = (yX6_feed, iX6_feed) := rfl
theorem pT_119 : pm_T0 119 = (yX6_byteAt, iX6_byteAt) := rfl
theorem pT_120 : pm_T0 120 = (yX6_isLetter, iX6_isLetter) := rfl
theorem pT_121 : pm_T0 121 = (yX6_isDigit, iX6_isDigit) := rfl
theorem pT_122 : pm_T0 122 = (yX6_advance, iX6_advance) := rfl
theorem pT_123 : pm_T0 123 = (yX6_isWord, iX6_isWord) := rfl
theorem pT_124 : pm_T0 124 = (yX6_isMark, iX6_isMark) := rfl
theorem pT_125 : pm_T0 125 = (yX6_kindHere, iX6_kindHere) := rfl
theorem pT_126 : pm_T0 126 = (yX6_lawHere, iX6_lawHere) := rfl
theorem pT_127 : pm_T0 127 = (yX6_wantNumber, iX6_wantNumber) := rfl
theorem pT_128 : pm_T0 128 = (yX6_wantEnd, iX6_wantEnd) := rfl
theorem pT_129 : pm_T0 129 = (yX6_mayWant, iX6_mayWant) := rfl
theorem pT_130 : pm_T0 130 = (yX6_wantOne, iX6_wantOne) := rfl
theorem pT_131 : pm_T0 131 = (yX6_wantClause, iX6_wantClause) := rfl
theorem pT_132 : pm_T0 132 = (yX6_post, iX6_post) := rfl
theorem pT_133 : pm_T0 133 = (yX6_mostOf, iX6_mostOf) := rfl
theorem pT_134 : pm_T0 134 = (yX6_set, iX6_set) := rfl
theorem pT_135 : pm_T0 135 = (yX6_lawOf, iX6_lawOf) := rfl
theorem pT_136 : pm_T0 136 = (yX6_isKind, iX6_isKind) := rfl
theorem pT_137 : pm_T0 137 = (yX6_person, iX6_person) := rfl
theorem pT_138 : pm_T0 138 = (yX6_of, iX6_of) := rfl
theorem pT_139 : pm_T0 139 = (yX6_thinksOf, iX6_thinksOf) := rfl
theorem pT_140 : pm_T0 140 = (yX6_needs, iX6_needs) := rfl
theorem pT_141 : pm_T0 141 = (yX6_says, iX6_says) := rfl
theorem pT_142 : pm_T0 142 = (yX6_isUsed, iX6_isUsed) := rfl
theorem pT_143 : pm_T0 143 = (yX6_does, iX6_does) := rfl
theorem pT_144 : pm_T0 144 = (yX6_mind, iX6_mind) := rfl
theorem pT_145 : pm_T0 145 = (yX6_thought, iX6_thought) := rfl
theorem pT_146 : pm_T0 146 = (yX6_own, iX6_own) := rfl
theorem pT_147 : pm_T0 147 = (yX6_give, iX6_give) := rfl
theorem pT_148 : pm_T0 148 = (yX6_isReady, iX6_isReady) := rfl
theorem pT_149 : pm_T0 149 = (yX6_readySet, iX6_readySet) := rfl
theorem pT_150 : pm_T0 150 = (yX6_next, iX6_next) := rfl
theorem pT_151 : pm_T0 151 = (yX6_pageGoes, iX6_pageGoes) := rfl
theorem pT_152 : pm_T0 152 = (yX6_writes, iX6_writes) := rfl
theorem pT_153 : pm_T0 153 = (yX6_weekGoes, iX6_weekGoes) := rfl
theorem pT_154 : pm_T0 154 = (yX6_sumOf, iX6_sumOf) := rfl
theorem pT_155 : pm_T0 155 = (yX6_weeks, iX6_weeks) := rfl
theorem pT_156 : pm_T0 156 = (yX6_drawn, iX6_drawn) := rfl
theorem pT_157 : pm_T0 157 = (yX6_seed, iX6_seed) := rfl
theorem pT_158 : pm_T0 158 = (yX6_weekByDraws, iX6_weekByDraws) := rfl
theorem pT_159 : pm_T0 159 = (yX6_week, iX6_week) := rfl
theorem pT_160 : pm_T0 160 = (yX6_poor, iX6_poor) := rfl
theorem pT_161 : pm_T0 161 = (yX6_state, iX6_state) := rfl
theorem pT_162 : pm_T0 162 = (yX6_wordsBehind, iX6_wordsBehind) := rfl
theorem pT_163 : pm_T0 163 = (yX6_words, iX6_words) := rfl
theorem pT_164 : pm_T0 164 = (yX6_gets, iX6_gets) := rfl
theorem pT_165 : pm_T0 165 = (yX6_idle, iX6_idle) := rfl
theorem pT_166 : pm_T0 166 = (yX6_vanFor, iX6_vanFor) := rfl
theorem pT_167 : pm_T0 167 = (yX6_kindFor, iX6_kindFor) := rfl
theorem pT_168 : pm_T0 168 = (yX6_thoughtFor, iX6_thoughtFor) := rfl
theorem pT_169 : pm_T0 169 = (yX6_needed, iX6_needed) := rfl
theorem pT_170 : pm_T0 170 = (yX6_fewest, iX6_fewest) := rfl
theorem pT_171 : pm_T0 171 = (yX6_thoughtOf, iX6_thoughtOf) := rfl
theorem pT_172 : pm_T0 172 = (yX6_packed, iX6_packed) := rfl
theorem pT_173 : pm_T0 173 = (yX6_isSo, iX6_isSo) := rfl
theorem pT_174 : pm_T0 174 = (yX6_fits, iX6_fits) := rfl
theorem pT_175 : pm_T0 175 = (yX6_lowest, iX6_lowest) := rfl
theorem pT_176 : pm_T0 176 = (yX6_powerOf, iX6_powerOf) := rfl
theorem pT_177 : pm_T0 177 = (yX6_odds, iX6_odds) := rfl
theorem pT_178 : pm_T0 178 = (yX6_hope, iX6_hope) := rfl
theorem pT_179 : pm_T0 179 = (yX6_findRows, iX6_findRows) := rfl
theorem pT_180 : pm_T0 180 = (yX6_prove, iX6_prove) := rfl
theorem pT_181 : pm_T0 181 = (yX6_isRow, iX6_isRow) := rfl
theorem pT_182 : pm_T0 182 = (yX6_row, iX6_row) := rfl
theorem pT_183 : pm_T0 183 = (yX6_alterRow, iX6_alterRow) := rfl
theorem pT_184 : pm_T0 184 = (yX6_judge, iX6_judge) := rfl
theorem pT_185 : pm_T0 185 = (yX6_minds, iX6_minds) := rfl
theorem pT_186 : pm_T0 186 = (yX6_isShelf, iX6_isShelf) := rfl
theorem pT_187 : pm_T0 187 = (yX6_sheet, iX6_sheet) := rfl
theorem pT_188 : pm_T0 188 = (yX6_put, iX6_put) := rfl
theorem pT_189 : pm_T0 189 = (yX6_lacksSort, iX6_lacksSort) := rfl
theorem pT_190 : pm_T0 190 = (yX6_item, iX6_item) := rfl
theorem pT_191 : pm_T0 191 = (yX6_isHeld, iX6_isHeld) := rfl
theorem pT_192 : pm_T0 192 = (yX6_shelf, iX6_shelf) := rfl
theorem pT_193 : pm_T0 193 = (yX6_kindOn, iX6_kindOn) := rfl
theorem pT_194 : pm_T0 194 = (yX6_isUnder, iX6_isUnder) := rfl
theorem pT_195 : pm_T0 195 = (yX6_taken, iX6_taken) := rfl
theorem pT_196 : pm_T0 196 = (yX6_ran, iX6_ran) := rfl
theorem pT_197 : pm_T0 197 = (yX6_plainThinks, iX6_plainThinks) := rfl
theorem pT_198 : pm_T0 198 = (yX6_widowThinks, iX6_widowThinks) := rfl
theorem pT_199 : pm_T0 199 = (yX6_thinksIt, iX6_thinksIt) := rfl
theorem pT_200 : pm_T0 200 = (yX6_plainAsks, iX6_plainAsks) := rfl
theorem pT_201 : pm_T0 201 = (yX6_asksIt, iX6_asksIt) := rfl
theorem pT_202 : pm_T0 202 = (yX6_plainParts, iX6_plainParts) := rfl
theorem pT_203 : pm_T0 203 = (yX6_partsIt, iX6_partsIt) := rfl
theorem pT_204 : pm_T0 204 = (yX6_plainWrites, iX6_plainWrites) := rfl
theorem pT_205 : pm_T0 205 = (yX6_writesIt, iX6_writesIt) := rfl
theorem pT_206 : pm_T0 206 = (yX6_act, iX6_act) := rfl
theorem pT_207 : pm_T0 207 = (yX6_trace, iX6_trace) := rfl
theorem pT_208 : pm_T0 208 = (yX6_manyWith, iX6_manyWith) := rfl
theorem pT_209 : pm_T0 209 = (yX6_many, iX6_many) := rfl
theorem pT_210 : pm_T0 210 = (yX6_keep, iX6_keep) := rfl
theorem pT_211 : pm_T0 211 = (yX6_again, iX6_again) := rfl
theorem pT_212 : pm_T0 212 = (yJ6_bitCount_0f7a4, iJ6_bitCount_0f7a4) := rfl
theorem pT_213 : pm_T0 213 = (yJ0_length_8abf5, iJ0_length_8abf5) := rfl
theorem pT_214 : pm_T0 214 = (yJ0_charAt_5068e, iJ0_charAt_5068e) := rfl
theorem pT_215 : pm_T0 215 = (yJ0_coder_7d493, iJ0_coder_7d493) := rfl
theorem pT_216 : pm_T0 216 = (yJ0_isLatin1_aae02, iJ0_isLatin1_aae02) := rfl
theorem pT_217 : pm_T0 217 = (yJ0_checkIndex_df160, iJ0_checkIndex_df160) := rfl
theorem pT_218 : pm_T0 218 = (yJ1_charAt_3b067, iJ1_charAt_3b067) := rfl
theorem pT_219 : pm_T0 219 = (yJ3_checkIndex_8e157, iJ3_checkIndex_8e157) := rfl
theorem pT_220 : pm_T0 220 = (yL_law, iL_law) := rfl
theorem pT_mk {y : MethodName} {m : pm_I} {R : String} (h : plainName R = true) (e1 : y.cls = R) (e2 : R = m.1) (e3 : m.2.2.2.2.1 = false ∨ y.name = "<init>") : pT_chk (y, m) = true := by
  have a1 : plainName y.cls = true := by rw [e1]; exact h
  have a2 : decide (y.cls = m.1) = true := decide_eq_true (e1.trans e2)
  have a3 : (!m.2.2.2.2.1 || decide (y.name = "<init>")) = true := by
    rcases e3 with e | e
    · rw [e]; rfl
    · rw [decide_eq_true e]; exact Bool.or_true _
  show (plainName y.cls && (decide (y.cls = m.1) && (!m.2.2.2.2.1 || decide (y.name = "<init>")))) = true
  simp only [a1, a2, a3, Bool.and_self]
theorem pR_RX0 : plainName RX0 = true := by decide +kernel
theorem pH_RX0 : RX0 ≠ "java/lang/invoke/MethodHandle" ∧ RX0 ≠ "java/lang/invoke/VarHandle" := by decide +kernel
theorem pR_RX1 : plainName RX1 = true := by decide +kernel
theorem pH_RX1 : RX1 ≠ "java/lang/invoke/MethodHandle" ∧ RX1 ≠ "java/lang/invoke/VarHandle" := by decide +kernel
theorem pR_RX2 : plainName RX2 = true := by decide +kernel
theorem pH_RX2 : RX2 ≠ "java/lang/invoke/MethodHandle" ∧ RX2 ≠ "java/lang/invoke/VarHandle" := by decide +kernel
theorem pR_RX3 : plainName RX3 = true := by decide +kernel
theorem pH_RX3 : RX3 ≠ "java/lang/invoke/MethodHandle" ∧ RX3 ≠ "java/lang/invoke/VarHandle" := by decide +kernel
theorem pR_RX4 : plainName RX4 = true := by decide +kernel
theorem pH_RX4 : RX4 ≠ "java/lang/invoke/MethodHandle" ∧ RX4 ≠ "java/lang/invoke/VarHandle" := by decide +kernel
theorem pR_RX5 : plainName RX5 = true := by decide +kernel
theorem pH_RX5 : RX5 ≠ "java/lang/invoke/MethodHandle" ∧ RX5 ≠ "java/lang/invoke/VarHandle" := by decide +kernel
theorem pR_RX6 : plainName RX6 = true := by decide +kernel
theorem pH_RX6 : RX6 ≠ "java/lang/invoke/MethodHandle" ∧ RX6 ≠ "java/lang/invoke/VarHandle" := by decide +kernel
theorem pR_RJ6 : plainName RJ6 = true := by decide +kernel
theorem pH_RJ6 : RJ6 ≠ "java/lang/invoke/MethodHandle" ∧ RJ6 ≠ "java/lang/invoke/VarHandle" := by decide +kernel
theorem pR_RJ0 : plainName RJ0 = true := by decide +kernel
theorem pH_RJ0 : RJ0 ≠ "java/lang/invoke/MethodHandle" ∧ RJ0 ≠ "java/lang/invoke/VarHandle" := by decide +kernel
theorem pR_RJ1 : plainName RJ1 = true := by decide +kernel
theorem pH_RJ1 : RJ1 ≠ "java/lang/invoke/MethodHandle" ∧ RJ1 ≠ "java/lang/invoke/VarHandle" := by decide +kernel
theorem pR_RJ3 : plainName RJ3 = true := by decide +kernel
theorem pH_RJ3 : RJ3 ≠ "java/lang/invoke/MethodHandle" ∧ RJ3 ≠ "java/lang/invoke/VarHandle" := by decide +kernel
theorem pR_RL : plainName RL = true := by decide +kernel
theorem pH_RL : RL ≠ "java/lang/invoke/MethodHandle" ∧ RL ≠ "java/lang/invoke/VarHandle" := by decide +kernel
theorem pD_0 : (parseMethodDescriptor "()V").map (fun d => d.parameters.length) = some 0 := by decide +kernel
theorem pD_1 : (parseMethodDescriptor "(III)V").map (fun d => d.parameters.length) = some 3 := by decide +kernel
theorem pD_2 : (parseMethodDescriptor "(II)I").map (fun d => d.parameters.length) = some 2 := by decide +kernel
theorem pD_3 : (parseMethodDescriptor "(I)V").map (fun d => d.parameters.length) = some 1 := by decide +kernel
theorem pD_4 : (parseMethodDescriptor "(I)I").map (fun d => d.parameters.length) = some 1 := by decide +kernel
theorem pD_5 : (parseMethodDescriptor "(LBlankRations$Office;)V").map (fun d => d.parameters.length) = some 1 := by decide +kernel
theorem pD_6 : (parseMethodDescriptor "(IIII)V").map (fun d => d.parameters.length) = some 4 := by decide +kernel
theorem pD_7 : (parseMethodDescriptor "(I)Z").map (fun d => d.parameters.length) = some 1 := by decide +kernel
theorem pD_8 : (parseMethodDescriptor "([I)I").map (fun d => d.parameters.length) = some 1 := by decide +kernel
theorem pD_9 : (parseMethodDescriptor "()I").map (fun d => d.parameters.length) = some 0 := by decide +kernel
theorem pD_10 : (parseMethodDescriptor "(II)V").map (fun d => d.parameters.length) = some 2 := by decide +kernel
theorem pD_11 : (parseMethodDescriptor "(LBlankRations$Sheet;)V").map (fun d => d.parameters.length) = some 1 := by decide +kernel
theorem pD_12 : (parseMethodDescriptor "(JI)Z").map (fun d => d.parameters.length) = some 2 := by decide +kernel
theorem pD_13 : (parseMethodDescriptor "(LBlankRations$Office;)I").map (fun d => d.parameters.length) = some 1 := by decide +kernel
theorem pD_14 : (parseMethodDescriptor "(Ljava/lang/String;II)Z").map (fun d => d.parameters.length) = some 3 := by decide +kernel
theorem pD_15 : (parseMethodDescriptor "(I)Ljava/lang/String;").map (fun d => d.parameters.length) = some 1 := by decide +kernel
theorem pD_16 : (parseMethodDescriptor "(LBlankRations$Office;I)V").map (fun d => d.parameters.length) = some 2 := by decide +kernel
theorem pD_17 : (parseMethodDescriptor "(JI)I").map (fun d => d.parameters.length) = some 2 := by decide +kernel
theorem pD_18 : (parseMethodDescriptor "(IIII)I").map (fun d => d.parameters.length) = some 4 := by decide +kernel
theorem pD_19 : (parseMethodDescriptor "(III)I").map (fun d => d.parameters.length) = some 3 := by decide +kernel
theorem pD_20 : (parseMethodDescriptor "(III)J").map (fun d => d.parameters.length) = some 3 := by decide +kernel
theorem pD_21 : (parseMethodDescriptor "(II)J").map (fun d => d.parameters.length) = some 2 := by decide +kernel
theorem pD_22 : (parseMethodDescriptor "(III)Z").map (fun d => d.parameters.length) = some 3 := by decide +kernel
theorem pD_23 : (parseMethodDescriptor "(II)Z").map (fun d => d.parameters.length) = some 2 := by decide +kernel
theorem pD_24 : (parseMethodDescriptor "()LBlankRations$Office;").map (fun d => d.parameters.length) = some 0 := by decide +kernel
theorem pD_25 : (parseMethodDescriptor "(LBlankRations$Office;II)I").map (fun d => d.parameters.length) = some 3 := by decide +kernel
theorem pD_26 : (parseMethodDescriptor "(LBlankRations$Sheet;II)Z").map (fun d => d.parameters.length) = some 3 := by decide +kernel
theorem pD_27 : (parseMethodDescriptor "(JJI)J").map (fun d => d.parameters.length) = some 3 := by decide +kernel
theorem pD_28 : (parseMethodDescriptor "(JJ)J").map (fun d => d.parameters.length) = some 2 := by decide +kernel
theorem pD_29 : (parseMethodDescriptor "([I)V").map (fun d => d.parameters.length) = some 1 := by decide +kernel
theorem pD_30 : (parseMethodDescriptor "([I[I)V").map (fun d => d.parameters.length) = some 2 := by decide +kernel
theorem pD_31 : (parseMethodDescriptor "(J)Z").map (fun d => d.parameters.length) = some 1 := by decide +kernel
theorem pD_32 : (parseMethodDescriptor "(I)C").map (fun d => d.parameters.length) = some 1 := by decide +kernel
theorem pD_33 : (parseMethodDescriptor "()B").map (fun d => d.parameters.length) = some 0 := by decide +kernel
theorem pD_34 : (parseMethodDescriptor "()Z").map (fun d => d.parameters.length) = some 0 := by decide +kernel
theorem pD_35 : (parseMethodDescriptor "([BI)C").map (fun d => d.parameters.length) = some 2 := by decide +kernel
theorem pD_36 : (parseMethodDescriptor "(IILjava/util/function/BiFunction;)I").map (fun d => d.parameters.length) = some 3 := by decide +kernel
theorem pD_37 : (parseMethodDescriptor "([I)Z").map (fun d => d.parameters.length) = some 1 := by decide +kernel
theorem pd_X0_init : (yX0_init).cls ≠ "java/lang/invoke/MethodHandle" ∧ (yX0_init).cls ≠ "java/lang/invoke/VarHandle" ∧ (parseMethodDescriptor (yX0_init).desc).map (fun d => d.parameters.length) = some 0 := ⟨pH_RX0.1, pH_RX0.2, pD_0⟩
theorem pd_X0_forget : (yX0_forget).cls ≠ "java/lang/invoke/MethodHandle" ∧ (yX0_forget).cls ≠ "java/lang/invoke/VarHandle" ∧ (parseMethodDescriptor (yX0_forget).desc).map (fun d => d.parameters.length) = some 0 := ⟨pH_RX0.1, pH_RX0.2, pD_0⟩
theorem pd_X0_play : (yX0_play).cls ≠ "java/lang/invoke/MethodHandle" ∧ (yX0_play).cls ≠ "java/lang/invoke/VarHandle" ∧ (parseMethodDescriptor (yX0_play).desc).map (fun d => d.parameters.length) = some 3 := ⟨pH_RX0.1, pH_RX0.2, pD_1⟩
theorem pd_X0_perform : (yX0_perform).cls ≠ "java/lang/invoke/MethodHandle" ∧ (yX0_perform).cls ≠ "java/lang/invoke/VarHandle" ∧ (parseMethodDescriptor (yX0_perform).desc).map (fun d => d.parameters.length) = some 2 := ⟨pH_RX0.1, pH_RX0.2, pD_2⟩
theorem pd_X0_enter : (yX0_enter).cls ≠ "java/lang/invoke/MethodHandle" ∧ (yX0_enter).cls ≠ "java/lang/invoke/VarHandle" ∧ (parseMethodDescriptor (yX0_enter).desc).map (fun d => d.parameters.length) = some 1 := ⟨pH_RX0.1, pH_RX0.2, pD_3⟩
theorem pd_X0_thinks : (yX0_thinks).cls ≠ "java/lang/invoke/MethodHandle" ∧ (yX0_thinks).cls ≠ "java/lang/invoke/VarHandle" ∧ (parseMethodDescriptor (yX0_thinks).desc).map (fun d => d.parameters.length) = some 1 := ⟨pH_RX0.1, pH_RX0.2, pD_4⟩
theorem pd_X0_asks : (yX0_asks).cls ≠ "java/lang/invoke/MethodHandle" ∧ (yX0_asks).cls ≠ "java/lang/invoke/VarHandle" ∧ (parseMethodDescriptor (yX0_asks).desc).map (fun d => d.parameters.length) = some 1 := ⟨pH_RX0.1, pH_RX0.2, pD_4⟩
theorem pd_X0_parts : (yX0_parts).cls ≠ "java/lang/invoke/MethodHandle" ∧ (yX0_parts).cls ≠ "java/lang/invoke/VarHandle" ∧ (parseMethodDescriptor (yX0_parts).desc).map (fun d => d.parameters.length) = some 1 := ⟨pH_RX0.1, pH_RX0.2, pD_4⟩
theorem pd_X0_writes : (yX0_writes).cls ≠ "java/lang/invoke/MethodHandle" ∧ (yX0_writes).cls ≠ "java/lang/invoke/VarHandle" ∧ (parseMethodDescriptor (yX0_writes).desc).map (fun d => d.parameters.length) = some 1 := ⟨pH_RX0.1, pH_RX0.2, pD_4⟩
theorem pd_X1_init : (yX1_init).cls ≠ "java/lang/invoke/MethodHandle" ∧ (yX1_init).cls ≠ "java/lang/invoke/VarHandle" ∧ (parseMethodDescriptor (yX1_init).desc).map (fun d => d.parameters.length) = some 0 := ⟨pH_RX1.1, pH_RX1.2, pD_0⟩
theorem pd_X1_begin : (yX1_begin).cls ≠ "java/lang/invoke/MethodHandle" ∧ (yX1_begin).cls ≠ "java/lang/invoke/VarHandle" ∧ (parseMethodDescriptor (yX1_begin).desc).map (fun d => d.parameters.length) = some 0 := ⟨pH_RX1.1, pH_RX1.2, pD_0⟩
theorem pd_X1_become : (yX1_become).cls ≠ "java/lang/invoke/MethodHandle" ∧ (yX1_become).cls ≠ "java/lang/invoke/VarHandle" ∧ (parseMethodDescriptor (yX1_become).desc).map (fun d => d.parameters.length) = some 1 := ⟨pH_RX1.1, pH_RX1.2, pD_5⟩
theorem pd_X1_add : (yX1_add).cls ≠ "java/lang/invoke/MethodHandle" ∧ (yX1_add).cls ≠ "java/lang/invoke/VarHandle" ∧ (parseMethodDescriptor (yX1_add).desc).map (fun d => d.parameters.length) = some 4 := ⟨pH_RX1.1, pH_RX1.2, pD_6⟩
theorem pd_X1_has : (yX1_has).cls ≠ "java/lang/invoke/MethodHandle" ∧ (yX1_has).cls ≠ "java/lang/invoke/VarHandle" ∧ (parseMethodDescriptor (yX1_has).desc).map (fun d => d.parameters.length) = some 1 := ⟨pH_RX1.1, pH_RX1.2, pD_7⟩
theorem pd_X1_sumOf : (yX1_sumOf).cls ≠ "java/lang/invoke/MethodHandle" ∧ (yX1_sumOf).cls ≠ "java/lang/invoke/VarHandle" ∧ (parseMethodDescriptor (yX1_sumOf).desc).map (fun d => d.parameters.length) = some 1 := ⟨pH_RX1.1, pH_RX1.2, pD_8⟩
theorem pd_X1_countOf : (yX1_countOf).cls ≠ "java/lang/invoke/MethodHandle" ∧ (yX1_countOf).cls ≠ "java/lang/invoke/VarHandle" ∧ (parseMethodDescriptor (yX1_countOf).desc).map (fun d => d.parameters.length) = some 1 := ⟨pH_RX1.1, pH_RX1.2, pD_8⟩
theorem pd_X1_readySet : (yX1_readySet).cls ≠ "java/lang/invoke/MethodHandle" ∧ (yX1_readySet).cls ≠ "java/lang/invoke/VarHandle" ∧ (parseMethodDescriptor (yX1_readySet).desc).map (fun d => d.parameters.length) = some 0 := ⟨pH_RX1.1, pH_RX1.2, pD_9⟩
theorem pd_X1_thinking : (yX1_thinking).cls ≠ "java/lang/invoke/MethodHandle" ∧ (yX1_thinking).cls ≠ "java/lang/invoke/VarHandle" ∧ (parseMethodDescriptor (yX1_thinking).desc).map (fun d => d.parameters.length) = some 1 := ⟨pH_RX1.1, pH_RX1.2, pD_4⟩
theorem pd_X1_needing : (yX1_needing).cls ≠ "java/lang/invoke/MethodHandle" ∧ (yX1_needing).cls ≠ "java/lang/invoke/VarHandle" ∧ (parseMethodDescriptor (yX1_needing).desc).map (fun d => d.parameters.length) = some 1 := ⟨pH_RX1.1, pH_RX1.2, pD_4⟩
theorem pd_X1_saying : (yX1_saying).cls ≠ "java/lang/invoke/MethodHandle" ∧ (yX1_saying).cls ≠ "java/lang/invoke/VarHandle" ∧ (parseMethodDescriptor (yX1_saying).desc).map (fun d => d.parameters.length) = some 1 := ⟨pH_RX1.1, pH_RX1.2, pD_4⟩
theorem pd_X1_isUsing : (yX1_isUsing).cls ≠ "java/lang/invoke/MethodHandle" ∧ (yX1_isUsing).cls ≠ "java/lang/invoke/VarHandle" ∧ (parseMethodDescriptor (yX1_isUsing).desc).map (fun d => d.parameters.length) = some 1 := ⟨pH_RX1.1, pH_RX1.2, pD_7⟩
theorem pd_X1_passWeek : (yX1_passWeek).cls ≠ "java/lang/invoke/MethodHandle" ∧ (yX1_passWeek).cls ≠ "java/lang/invoke/VarHandle" ∧ (parseMethodDescriptor (yX1_passWeek).desc).map (fun d => d.parameters.length) = some 1 := ⟨pH_RX1.1, pH_RX1.2, pD_4⟩
theorem pd_X1_passWeekByDraws : (yX1_passWeekByDraws).cls ≠ "java/lang/invoke/MethodHandle" ∧ (yX1_passWeekByDraws).cls ≠ "java/lang/invoke/VarHandle" ∧ (parseMethodDescriptor (yX1_passWeekByDraws).desc).map (fun d => d.parameters.length) = some 0 := ⟨pH_RX1.1, pH_RX1.2, pD_9⟩
theorem pd_X1_draw : (yX1_draw).cls ≠ "java/lang/invoke/MethodHandle" ∧ (yX1_draw).cls ≠ "java/lang/invoke/VarHandle" ∧ (parseMethodDescriptor (yX1_draw).desc).map (fun d => d.parameters.length) = some 0 := ⟨pH_RX1.1, pH_RX1.2, pD_9⟩
theorem pd_X1_think : (yX1_think).cls ≠ "java/lang/invoke/MethodHandle" ∧ (yX1_think).cls ≠ "java/lang/invoke/VarHandle" ∧ (parseMethodDescriptor (yX1_think).desc).map (fun d => d.parameters.length) = some 0 := ⟨pH_RX1.1, pH_RX1.2, pD_0⟩
theorem pd_X1_handOut : (yX1_handOut).cls ≠ "java/lang/invoke/MethodHandle" ∧ (yX1_handOut).cls ≠ "java/lang/invoke/VarHandle" ∧ (parseMethodDescriptor (yX1_handOut).desc).map (fun d => d.parameters.length) = some 1 := ⟨pH_RX1.1, pH_RX1.2, pD_3⟩
theorem pd_X1_keenest : (yX1_keenest).cls ≠ "java/lang/invoke/MethodHandle" ∧ (yX1_keenest).cls ≠ "java/lang/invoke/VarHandle" ∧ (parseMethodDescriptor (yX1_keenest).desc).map (fun d => d.parameters.length) = some 1 := ⟨pH_RX1.1, pH_RX1.2, pD_4⟩
theorem pd_X1_speak : (yX1_speak).cls ≠ "java/lang/invoke/MethodHandle" ∧ (yX1_speak).cls ≠ "java/lang/invoke/VarHandle" ∧ (parseMethodDescriptor (yX1_speak).desc).map (fun d => d.parameters.length) = some 0 := ⟨pH_RX1.1, pH_RX1.2, pD_9⟩
theorem pd_X2_init : (yX2_init).cls ≠ "java/lang/invoke/MethodHandle" ∧ (yX2_init).cls ≠ "java/lang/invoke/VarHandle" ∧ (parseMethodDescriptor (yX2_init).desc).map (fun d => d.parameters.length) = some 0 := ⟨pH_RX2.1, pH_RX2.2, pD_0⟩
theorem pd_X2_begin : (yX2_begin).cls ≠ "java/lang/invoke/MethodHandle" ∧ (yX2_begin).cls ≠ "java/lang/invoke/VarHandle" ∧ (parseMethodDescriptor (yX2_begin).desc).map (fun d => d.parameters.length) = some 2 := ⟨pH_RX2.1, pH_RX2.2, pD_10⟩
theorem pd_X3_init : (yX3_init).cls ≠ "java/lang/invoke/MethodHandle" ∧ (yX3_init).cls ≠ "java/lang/invoke/VarHandle" ∧ (parseMethodDescriptor (yX3_init).desc).map (fun d => d.parameters.length) = some 0 := ⟨pH_RX3.1, pH_RX3.2, pD_0⟩
theorem pd_X3_holdPerson : (yX3_holdPerson).cls ≠ "java/lang/invoke/MethodHandle" ∧ (yX3_holdPerson).cls ≠ "java/lang/invoke/VarHandle" ∧ (parseMethodDescriptor (yX3_holdPerson).desc).map (fun d => d.parameters.length) = some 1 := ⟨pH_RX3.1, pH_RX3.2, pD_3⟩
theorem pd_X3_holdRow : (yX3_holdRow).cls ≠ "java/lang/invoke/MethodHandle" ∧ (yX3_holdRow).cls ≠ "java/lang/invoke/VarHandle" ∧ (parseMethodDescriptor (yX3_holdRow).desc).map (fun d => d.parameters.length) = some 1 := ⟨pH_RX3.1, pH_RX3.2, pD_11⟩
theorem pd_X4_init : (yX4_init).cls ≠ "java/lang/invoke/MethodHandle" ∧ (yX4_init).cls ≠ "java/lang/invoke/VarHandle" ∧ (parseMethodDescriptor (yX4_init).desc).map (fun d => d.parameters.length) = some 0 := ⟨pH_RX4.1, pH_RX4.2, pD_0⟩
theorem pd_X4_take : (yX4_take).cls ≠ "java/lang/invoke/MethodHandle" ∧ (yX4_take).cls ≠ "java/lang/invoke/VarHandle" ∧ (parseMethodDescriptor (yX4_take).desc).map (fun d => d.parameters.length) = some 2 := ⟨pH_RX4.1, pH_RX4.2, pD_12⟩
theorem pd_X4_tell : (yX4_tell).cls ≠ "java/lang/invoke/MethodHandle" ∧ (yX4_tell).cls ≠ "java/lang/invoke/VarHandle" ∧ (parseMethodDescriptor (yX4_tell).desc).map (fun d => d.parameters.length) = some 1 := ⟨pH_RX4.1, pH_RX4.2, pD_13⟩
theorem pd_X4_cut : (yX4_cut).cls ≠ "java/lang/invoke/MethodHandle" ∧ (yX4_cut).cls ≠ "java/lang/invoke/VarHandle" ∧ (parseMethodDescriptor (yX4_cut).desc).map (fun d => d.parameters.length) = some 0 := ⟨pH_RX4.1, pH_RX4.2, pD_0⟩
theorem pd_X4_cutName : (yX4_cutName).cls ≠ "java/lang/invoke/MethodHandle" ∧ (yX4_cutName).cls ≠ "java/lang/invoke/VarHandle" ∧ (parseMethodDescriptor (yX4_cutName).desc).map (fun d => d.parameters.length) = some 1 := ⟨pH_RX4.1, pH_RX4.2, pD_4⟩
theorem pd_X4_cutNumber : (yX4_cutNumber).cls ≠ "java/lang/invoke/MethodHandle" ∧ (yX4_cutNumber).cls ≠ "java/lang/invoke/VarHandle" ∧ (parseMethodDescriptor (yX4_cutNumber).desc).map (fun d => d.parameters.length) = some 1 := ⟨pH_RX4.1, pH_RX4.2, pD_4⟩
theorem pd_X4_addToken : (yX4_addToken).cls ≠ "java/lang/invoke/MethodHandle" ∧ (yX4_addToken).cls ≠ "java/lang/invoke/VarHandle" ∧ (parseMethodDescriptor (yX4_addToken).desc).map (fun d => d.parameters.length) = some 3 := ⟨pH_RX4.1, pH_RX4.2, pD_1⟩
theorem pd_X4_wordAt : (yX4_wordAt).cls ≠ "java/lang/invoke/MethodHandle" ∧ (yX4_wordAt).cls ≠ "java/lang/invoke/VarHandle" ∧ (parseMethodDescriptor (yX4_wordAt).desc).map (fun d => d.parameters.length) = some 2 := ⟨pH_RX4.1, pH_RX4.2, pD_2⟩
theorem pd_X4_isSpelt : (yX4_isSpelt).cls ≠ "java/lang/invoke/MethodHandle" ∧ (yX4_isSpelt).cls ≠ "java/lang/invoke/VarHandle" ∧ (parseMethodDescriptor (yX4_isSpelt).desc).map (fun d => d.parameters.length) = some 3 := ⟨pH_RX4.1, pH_RX4.2, pD_14⟩
theorem pd_X4_spelling : (yX4_spelling).cls ≠ "java/lang/invoke/MethodHandle" ∧ (yX4_spelling).cls ≠ "java/lang/invoke/VarHandle" ∧ (parseMethodDescriptor (yX4_spelling).desc).map (fun d => d.parameters.length) = some 1 := ⟨pH_RX4.1, pH_RX4.2, pD_15⟩
theorem pd_X4_isLetter : (yX4_isLetter).cls ≠ "java/lang/invoke/MethodHandle" ∧ (yX4_isLetter).cls ≠ "java/lang/invoke/VarHandle" ∧ (parseMethodDescriptor (yX4_isLetter).desc).map (fun d => d.parameters.length) = some 1 := ⟨pH_RX4.1, pH_RX4.2, pD_7⟩
theorem pd_X4_isDigit : (yX4_isDigit).cls ≠ "java/lang/invoke/MethodHandle" ∧ (yX4_isDigit).cls ≠ "java/lang/invoke/VarHandle" ∧ (parseMethodDescriptor (yX4_isDigit).desc).map (fun d => d.parameters.length) = some 1 := ⟨pH_RX4.1, pH_RX4.2, pD_7⟩
theorem pd_X4_tellOne : (yX4_tellOne).cls ≠ "java/lang/invoke/MethodHandle" ∧ (yX4_tellOne).cls ≠ "java/lang/invoke/VarHandle" ∧ (parseMethodDescriptor (yX4_tellOne).desc).map (fun d => d.parameters.length) = some 1 := ⟨pH_RX4.1, pH_RX4.2, pD_5⟩
theorem pd_X4_tellPerson : (yX4_tellPerson).cls ≠ "java/lang/invoke/MethodHandle" ∧ (yX4_tellPerson).cls ≠ "java/lang/invoke/VarHandle" ∧ (parseMethodDescriptor (yX4_tellPerson).desc).map (fun d => d.parameters.length) = some 2 := ⟨pH_RX4.1, pH_RX4.2, pD_16⟩
theorem pd_X4_numberBehind : (yX4_numberBehind).cls ≠ "java/lang/invoke/MethodHandle" ∧ (yX4_numberBehind).cls ≠ "java/lang/invoke/VarHandle" ∧ (parseMethodDescriptor (yX4_numberBehind).desc).map (fun d => d.parameters.length) = some 2 := ⟨pH_RX4.1, pH_RX4.2, pD_2⟩
theorem pd_X4_numberUpTo : (yX4_numberUpTo).cls ≠ "java/lang/invoke/MethodHandle" ∧ (yX4_numberUpTo).cls ≠ "java/lang/invoke/VarHandle" ∧ (parseMethodDescriptor (yX4_numberUpTo).desc).map (fun d => d.parameters.length) = some 1 := ⟨pH_RX4.1, pH_RX4.2, pD_4⟩
theorem pd_X4_passSemicolon : (yX4_passSemicolon).cls ≠ "java/lang/invoke/MethodHandle" ∧ (yX4_passSemicolon).cls ≠ "java/lang/invoke/VarHandle" ∧ (parseMethodDescriptor (yX4_passSemicolon).desc).map (fun d => d.parameters.length) = some 0 := ⟨pH_RX4.1, pH_RX4.2, pD_0⟩
theorem pd_X4_fail : (yX4_fail).cls ≠ "java/lang/invoke/MethodHandle" ∧ (yX4_fail).cls ≠ "java/lang/invoke/VarHandle" ∧ (parseMethodDescriptor (yX4_fail).desc).map (fun d => d.parameters.length) = some 0 := ⟨pH_RX4.1, pH_RX4.2, pD_0⟩
theorem pd_X5_init : (yX5_init).cls ≠ "java/lang/invoke/MethodHandle" ∧ (yX5_init).cls ≠ "java/lang/invoke/VarHandle" ∧ (parseMethodDescriptor (yX5_init).desc).map (fun d => d.parameters.length) = some 0 := ⟨pH_RX5.1, pH_RX5.2, pD_0⟩
theorem pd_X5_feed : (yX5_feed).cls ≠ "java/lang/invoke/MethodHandle" ∧ (yX5_feed).cls ≠ "java/lang/invoke/VarHandle" ∧ (parseMethodDescriptor (yX5_feed).desc).map (fun d => d.parameters.length) = some 2 := ⟨pH_RX5.1, pH_RX5.2, pD_17⟩
theorem pd_X5_post : (yX5_post).cls ≠ "java/lang/invoke/MethodHandle" ∧ (yX5_post).cls ≠ "java/lang/invoke/VarHandle" ∧ (parseMethodDescriptor (yX5_post).desc).map (fun d => d.parameters.length) = some 0 := ⟨pH_RX5.1, pH_RX5.2, pD_9⟩
theorem pd_X5_set : (yX5_set).cls ≠ "java/lang/invoke/MethodHandle" ∧ (yX5_set).cls ≠ "java/lang/invoke/VarHandle" ∧ (parseMethodDescriptor (yX5_set).desc).map (fun d => d.parameters.length) = some 2 := ⟨pH_RX5.1, pH_RX5.2, pD_2⟩
theorem pd_X5_lawOf : (yX5_lawOf).cls ≠ "java/lang/invoke/MethodHandle" ∧ (yX5_lawOf).cls ≠ "java/lang/invoke/VarHandle" ∧ (parseMethodDescriptor (yX5_lawOf).desc).map (fun d => d.parameters.length) = some 1 := ⟨pH_RX5.1, pH_RX5.2, pD_4⟩
theorem pd_X5_person : (yX5_person).cls ≠ "java/lang/invoke/MethodHandle" ∧ (yX5_person).cls ≠ "java/lang/invoke/VarHandle" ∧ (parseMethodDescriptor (yX5_person).desc).map (fun d => d.parameters.length) = some 4 := ⟨pH_RX5.1, pH_RX5.2, pD_18⟩
theorem pd_X5_of : (yX5_of).cls ≠ "java/lang/invoke/MethodHandle" ∧ (yX5_of).cls ≠ "java/lang/invoke/VarHandle" ∧ (parseMethodDescriptor (yX5_of).desc).map (fun d => d.parameters.length) = some 2 := ⟨pH_RX5.1, pH_RX5.2, pD_2⟩
theorem pd_X5_does : (yX5_does).cls ≠ "java/lang/invoke/MethodHandle" ∧ (yX5_does).cls ≠ "java/lang/invoke/VarHandle" ∧ (parseMethodDescriptor (yX5_does).desc).map (fun d => d.parameters.length) = some 2 := ⟨pH_RX5.1, pH_RX5.2, pD_2⟩
theorem pd_X5_mind : (yX5_mind).cls ≠ "java/lang/invoke/MethodHandle" ∧ (yX5_mind).cls ≠ "java/lang/invoke/VarHandle" ∧ (parseMethodDescriptor (yX5_mind).desc).map (fun d => d.parameters.length) = some 3 := ⟨pH_RX5.1, pH_RX5.2, pD_19⟩
theorem pd_X5_thought : (yX5_thought).cls ≠ "java/lang/invoke/MethodHandle" ∧ (yX5_thought).cls ≠ "java/lang/invoke/VarHandle" ∧ (parseMethodDescriptor (yX5_thought).desc).map (fun d => d.parameters.length) = some 2 := ⟨pH_RX5.1, pH_RX5.2, pD_2⟩
theorem pd_X5_own : (yX5_own).cls ≠ "java/lang/invoke/MethodHandle" ∧ (yX5_own).cls ≠ "java/lang/invoke/VarHandle" ∧ (parseMethodDescriptor (yX5_own).desc).map (fun d => d.parameters.length) = some 2 := ⟨pH_RX5.1, pH_RX5.2, pD_2⟩
theorem pd_X5_give : (yX5_give).cls ≠ "java/lang/invoke/MethodHandle" ∧ (yX5_give).cls ≠ "java/lang/invoke/VarHandle" ∧ (parseMethodDescriptor (yX5_give).desc).map (fun d => d.parameters.length) = some 2 := ⟨pH_RX5.1, pH_RX5.2, pD_2⟩
theorem pd_X5_weeks : (yX5_weeks).cls ≠ "java/lang/invoke/MethodHandle" ∧ (yX5_weeks).cls ≠ "java/lang/invoke/VarHandle" ∧ (parseMethodDescriptor (yX5_weeks).desc).map (fun d => d.parameters.length) = some 1 := ⟨pH_RX5.1, pH_RX5.2, pD_4⟩
theorem pd_X5_seed : (yX5_seed).cls ≠ "java/lang/invoke/MethodHandle" ∧ (yX5_seed).cls ≠ "java/lang/invoke/VarHandle" ∧ (parseMethodDescriptor (yX5_seed).desc).map (fun d => d.parameters.length) = some 1 := ⟨pH_RX5.1, pH_RX5.2, pD_4⟩
theorem pd_X5_week : (yX5_week).cls ≠ "java/lang/invoke/MethodHandle" ∧ (yX5_week).cls ≠ "java/lang/invoke/VarHandle" ∧ (parseMethodDescriptor (yX5_week).desc).map (fun d => d.parameters.length) = some 0 := ⟨pH_RX5.1, pH_RX5.2, pD_9⟩
theorem pd_X5_poor : (yX5_poor).cls ≠ "java/lang/invoke/MethodHandle" ∧ (yX5_poor).cls ≠ "java/lang/invoke/VarHandle" ∧ (parseMethodDescriptor (yX5_poor).desc).map (fun d => d.parameters.length) = some 1 := ⟨pH_RX5.1, pH_RX5.2, pD_4⟩
theorem pd_X5_state : (yX5_state).cls ≠ "java/lang/invoke/MethodHandle" ∧ (yX5_state).cls ≠ "java/lang/invoke/VarHandle" ∧ (parseMethodDescriptor (yX5_state).desc).map (fun d => d.parameters.length) = some 1 := ⟨pH_RX5.1, pH_RX5.2, pD_4⟩
theorem pd_X5_words : (yX5_words).cls ≠ "java/lang/invoke/MethodHandle" ∧ (yX5_words).cls ≠ "java/lang/invoke/VarHandle" ∧ (parseMethodDescriptor (yX5_words).desc).map (fun d => d.parameters.length) = some 1 := ⟨pH_RX5.1, pH_RX5.2, pD_4⟩
theorem pd_X5_gets : (yX5_gets).cls ≠ "java/lang/invoke/MethodHandle" ∧ (yX5_gets).cls ≠ "java/lang/invoke/VarHandle" ∧ (parseMethodDescriptor (yX5_gets).desc).map (fun d => d.parameters.length) = some 1 := ⟨pH_RX5.1, pH_RX5.2, pD_4⟩
theorem pd_X5_idle : (yX5_idle).cls ≠ "java/lang/invoke/MethodHandle" ∧ (yX5_idle).cls ≠ "java/lang/invoke/VarHandle" ∧ (parseMethodDescriptor (yX5_idle).desc).map (fun d => d.parameters.length) = some 0 := ⟨pH_RX5.1, pH_RX5.2, pD_9⟩
theorem pd_X5_vanFor : (yX5_vanFor).cls ≠ "java/lang/invoke/MethodHandle" ∧ (yX5_vanFor).cls ≠ "java/lang/invoke/VarHandle" ∧ (parseMethodDescriptor (yX5_vanFor).desc).map (fun d => d.parameters.length) = some 2 := ⟨pH_RX5.1, pH_RX5.2, pD_2⟩
theorem pd_X5_kindFor : (yX5_kindFor).cls ≠ "java/lang/invoke/MethodHandle" ∧ (yX5_kindFor).cls ≠ "java/lang/invoke/VarHandle" ∧ (parseMethodDescriptor (yX5_kindFor).desc).map (fun d => d.parameters.length) = some 2 := ⟨pH_RX5.1, pH_RX5.2, pD_2⟩
theorem pd_X5_thoughtFor : (yX5_thoughtFor).cls ≠ "java/lang/invoke/MethodHandle" ∧ (yX5_thoughtFor).cls ≠ "java/lang/invoke/VarHandle" ∧ (parseMethodDescriptor (yX5_thoughtFor).desc).map (fun d => d.parameters.length) = some 2 := ⟨pH_RX5.1, pH_RX5.2, pD_2⟩
theorem pd_X5_needed : (yX5_needed).cls ≠ "java/lang/invoke/MethodHandle" ∧ (yX5_needed).cls ≠ "java/lang/invoke/VarHandle" ∧ (parseMethodDescriptor (yX5_needed).desc).map (fun d => d.parameters.length) = some 1 := ⟨pH_RX5.1, pH_RX5.2, pD_4⟩
theorem pd_X5_fewest : (yX5_fewest).cls ≠ "java/lang/invoke/MethodHandle" ∧ (yX5_fewest).cls ≠ "java/lang/invoke/VarHandle" ∧ (parseMethodDescriptor (yX5_fewest).desc).map (fun d => d.parameters.length) = some 2 := ⟨pH_RX5.1, pH_RX5.2, pD_2⟩
theorem pd_X5_packed : (yX5_packed).cls ≠ "java/lang/invoke/MethodHandle" ∧ (yX5_packed).cls ≠ "java/lang/invoke/VarHandle" ∧ (parseMethodDescriptor (yX5_packed).desc).map (fun d => d.parameters.length) = some 1 := ⟨pH_RX5.1, pH_RX5.2, pD_4⟩
theorem pd_X5_fits : (yX5_fits).cls ≠ "java/lang/invoke/MethodHandle" ∧ (yX5_fits).cls ≠ "java/lang/invoke/VarHandle" ∧ (parseMethodDescriptor (yX5_fits).desc).map (fun d => d.parameters.length) = some 3 := ⟨pH_RX5.1, pH_RX5.2, pD_19⟩
theorem pd_X5_odds : (yX5_odds).cls ≠ "java/lang/invoke/MethodHandle" ∧ (yX5_odds).cls ≠ "java/lang/invoke/VarHandle" ∧ (parseMethodDescriptor (yX5_odds).desc).map (fun d => d.parameters.length) = some 3 := ⟨pH_RX5.1, pH_RX5.2, pD_20⟩
theorem pd_X5_hope : (yX5_hope).cls ≠ "java/lang/invoke/MethodHandle" ∧ (yX5_hope).cls ≠ "java/lang/invoke/VarHandle" ∧ (parseMethodDescriptor (yX5_hope).desc).map (fun d => d.parameters.length) = some 2 := ⟨pH_RX5.1, pH_RX5.2, pD_21⟩
theorem pd_X5_prove : (yX5_prove).cls ≠ "java/lang/invoke/MethodHandle" ∧ (yX5_prove).cls ≠ "java/lang/invoke/VarHandle" ∧ (parseMethodDescriptor (yX5_prove).desc).map (fun d => d.parameters.length) = some 2 := ⟨pH_RX5.1, pH_RX5.2, pD_2⟩
theorem pd_X5_row : (yX5_row).cls ≠ "java/lang/invoke/MethodHandle" ∧ (yX5_row).cls ≠ "java/lang/invoke/VarHandle" ∧ (parseMethodDescriptor (yX5_row).desc).map (fun d => d.parameters.length) = some 2 := ⟨pH_RX5.1, pH_RX5.2, pD_2⟩
theorem pd_X5_alterRow : (yX5_alterRow).cls ≠ "java/lang/invoke/MethodHandle" ∧ (yX5_alterRow).cls ≠ "java/lang/invoke/VarHandle" ∧ (parseMethodDescriptor (yX5_alterRow).desc).map (fun d => d.parameters.length) = some 3 := ⟨pH_RX5.1, pH_RX5.2, pD_19⟩
theorem pd_X5_judge : (yX5_judge).cls ≠ "java/lang/invoke/MethodHandle" ∧ (yX5_judge).cls ≠ "java/lang/invoke/VarHandle" ∧ (parseMethodDescriptor (yX5_judge).desc).map (fun d => d.parameters.length) = some 1 := ⟨pH_RX5.1, pH_RX5.2, pD_4⟩
theorem pd_X5_minds : (yX5_minds).cls ≠ "java/lang/invoke/MethodHandle" ∧ (yX5_minds).cls ≠ "java/lang/invoke/VarHandle" ∧ (parseMethodDescriptor (yX5_minds).desc).map (fun d => d.parameters.length) = some 4 := ⟨pH_RX5.1, pH_RX5.2, pD_18⟩
theorem pd_X5_sheet : (yX5_sheet).cls ≠ "java/lang/invoke/MethodHandle" ∧ (yX5_sheet).cls ≠ "java/lang/invoke/VarHandle" ∧ (parseMethodDescriptor (yX5_sheet).desc).map (fun d => d.parameters.length) = some 3 := ⟨pH_RX5.1, pH_RX5.2, pD_19⟩
theorem pd_X5_put : (yX5_put).cls ≠ "java/lang/invoke/MethodHandle" ∧ (yX5_put).cls ≠ "java/lang/invoke/VarHandle" ∧ (parseMethodDescriptor (yX5_put).desc).map (fun d => d.parameters.length) = some 3 := ⟨pH_RX5.1, pH_RX5.2, pD_19⟩
theorem pd_X5_item : (yX5_item).cls ≠ "java/lang/invoke/MethodHandle" ∧ (yX5_item).cls ≠ "java/lang/invoke/VarHandle" ∧ (parseMethodDescriptor (yX5_item).desc).map (fun d => d.parameters.length) = some 3 := ⟨pH_RX5.1, pH_RX5.2, pD_19⟩
theorem pd_X5_shelf : (yX5_shelf).cls ≠ "java/lang/invoke/MethodHandle" ∧ (yX5_shelf).cls ≠ "java/lang/invoke/VarHandle" ∧ (parseMethodDescriptor (yX5_shelf).desc).map (fun d => d.parameters.length) = some 3 := ⟨pH_RX5.1, pH_RX5.2, pD_19⟩
theorem pd_X5_taken : (yX5_taken).cls ≠ "java/lang/invoke/MethodHandle" ∧ (yX5_taken).cls ≠ "java/lang/invoke/VarHandle" ∧ (parseMethodDescriptor (yX5_taken).desc).map (fun d => d.parameters.length) = some 2 := ⟨pH_RX5.1, pH_RX5.2, pD_2⟩
theorem pd_X5_act : (yX5_act).cls ≠ "java/lang/invoke/MethodHandle" ∧ (yX5_act).cls ≠ "java/lang/invoke/VarHandle" ∧ (parseMethodDescriptor (yX5_act).desc).map (fun d => d.parameters.length) = some 3 := ⟨pH_RX5.1, pH_RX5.2, pD_19⟩
theorem pd_X5_trace : (yX5_trace).cls ≠ "java/lang/invoke/MethodHandle" ∧ (yX5_trace).cls ≠ "java/lang/invoke/VarHandle" ∧ (parseMethodDescriptor (yX5_trace).desc).map (fun d => d.parameters.length) = some 1 := ⟨pH_RX5.1, pH_RX5.2, pD_4⟩
theorem pd_X5_many : (yX5_many).cls ≠ "java/lang/invoke/MethodHandle" ∧ (yX5_many).cls ≠ "java/lang/invoke/VarHandle" ∧ (parseMethodDescriptor (yX5_many).desc).map (fun d => d.parameters.length) = some 1 := ⟨pH_RX5.1, pH_RX5.2, pD_4⟩
theorem pd_X5_keep : (yX5_keep).cls ≠ "java/lang/invoke/MethodHandle" ∧ (yX5_keep).cls ≠ "java/lang/invoke/VarHandle" ∧ (parseMethodDescriptor (yX5_keep).desc).map (fun d => d.parameters.length) = some 0 := ⟨pH_RX5.1, pH_RX5.2, pD_9⟩
theorem pd_X5_again : (yX5_again).cls ≠ "java/lang/invoke/MethodHandle" ∧ (yX5_again).cls ≠ "java/lang/invoke/VarHandle" ∧ (parseMethodDescriptor (yX5_again).desc).map (fun d => d.parameters.length) = some 0 := ⟨pH_RX5.1, pH_RX5.2, pD_9⟩
theorem pd_X5_isWithin : (yX5_isWithin).cls ≠ "java/lang/invoke/MethodHandle" ∧ (yX5_isWithin).cls ≠ "java/lang/invoke/VarHandle" ∧ (parseMethodDescriptor (yX5_isWithin).desc).map (fun d => d.parameters.length) = some 3 := ⟨pH_RX5.1, pH_RX5.2, pD_22⟩
theorem pd_X5_isKind : (yX5_isKind).cls ≠ "java/lang/invoke/MethodHandle" ∧ (yX5_isKind).cls ≠ "java/lang/invoke/VarHandle" ∧ (parseMethodDescriptor (yX5_isKind).desc).map (fun d => d.parameters.length) = some 1 := ⟨pH_RX5.1, pH_RX5.2, pD_7⟩
theorem pd_X5_isPlace : (yX5_isPlace).cls ≠ "java/lang/invoke/MethodHandle" ∧ (yX5_isPlace).cls ≠ "java/lang/invoke/VarHandle" ∧ (parseMethodDescriptor (yX5_isPlace).desc).map (fun d => d.parameters.length) = some 1 := ⟨pH_RX5.1, pH_RX5.2, pD_7⟩
theorem pd_X5_isUnder : (yX5_isUnder).cls ≠ "java/lang/invoke/MethodHandle" ∧ (yX5_isUnder).cls ≠ "java/lang/invoke/VarHandle" ∧ (parseMethodDescriptor (yX5_isUnder).desc).map (fun d => d.parameters.length) = some 2 := ⟨pH_RX5.1, pH_RX5.2, pD_23⟩
theorem pd_X5_isInRow : (yX5_isInRow).cls ≠ "java/lang/invoke/MethodHandle" ∧ (yX5_isInRow).cls ≠ "java/lang/invoke/VarHandle" ∧ (parseMethodDescriptor (yX5_isInRow).desc).map (fun d => d.parameters.length) = some 2 := ⟨pH_RX5.1, pH_RX5.2, pD_23⟩
theorem pd_X5_trial : (yX5_trial).cls ≠ "java/lang/invoke/MethodHandle" ∧ (yX5_trial).cls ≠ "java/lang/invoke/VarHandle" ∧ (parseMethodDescriptor (yX5_trial).desc).map (fun d => d.parameters.length) = some 0 := ⟨pH_RX5.1, pH_RX5.2, pD_24⟩
theorem pd_X5_wordsBy : (yX5_wordsBy).cls ≠ "java/lang/invoke/MethodHandle" ∧ (yX5_wordsBy).cls ≠ "java/lang/invoke/VarHandle" ∧ (parseMethodDescriptor (yX5_wordsBy).desc).map (fun d => d.parameters.length) = some 3 := ⟨pH_RX5.1, pH_RX5.2, pD_25⟩
theorem pd_X5_isTold : (yX5_isTold).cls ≠ "java/lang/invoke/MethodHandle" ∧ (yX5_isTold).cls ≠ "java/lang/invoke/VarHandle" ∧ (parseMethodDescriptor (yX5_isTold).desc).map (fun d => d.parameters.length) = some 3 := ⟨pH_RX5.1, pH_RX5.2, pD_26⟩
theorem pd_X5_leastPacking : (yX5_leastPacking).cls ≠ "java/lang/invoke/MethodHandle" ∧ (yX5_leastPacking).cls ≠ "java/lang/invoke/VarHandle" ∧ (parseMethodDescriptor (yX5_leastPacking).desc).map (fun d => d.parameters.length) = some 2 := ⟨pH_RX5.1, pH_RX5.2, pD_2⟩
theorem pd_X5_choices : (yX5_choices).cls ≠ "java/lang/invoke/MethodHandle" ∧ (yX5_choices).cls ≠ "java/lang/invoke/VarHandle" ∧ (parseMethodDescriptor (yX5_choices).desc).map (fun d => d.parameters.length) = some 2 := ⟨pH_RX5.1, pH_RX5.2, pD_21⟩
theorem pd_X5_partOf : (yX5_partOf).cls ≠ "java/lang/invoke/MethodHandle" ∧ (yX5_partOf).cls ≠ "java/lang/invoke/VarHandle" ∧ (parseMethodDescriptor (yX5_partOf).desc).map (fun d => d.parameters.length) = some 3 := ⟨pH_RX5.1, pH_RX5.2, pD_27⟩
theorem pd_X5_commonDivisor : (yX5_commonDivisor).cls ≠ "java/lang/invoke/MethodHandle" ∧ (yX5_commonDivisor).cls ≠ "java/lang/invoke/VarHandle" ∧ (parseMethodDescriptor (yX5_commonDivisor).desc).map (fun d => d.parameters.length) = some 2 := ⟨pH_RX5.1, pH_RX5.2, pD_28⟩
theorem pd_X5_narrowed : (yX5_narrowed).cls ≠ "java/lang/invoke/MethodHandle" ∧ (yX5_narrowed).cls ≠ "java/lang/invoke/VarHandle" ∧ (parseMethodDescriptor (yX5_narrowed).desc).map (fun d => d.parameters.length) = some 2 := ⟨pH_RX5.1, pH_RX5.2, pD_21⟩
theorem pd_X6_init : (yX6_init).cls ≠ "java/lang/invoke/MethodHandle" ∧ (yX6_init).cls ≠ "java/lang/invoke/VarHandle" ∧ (parseMethodDescriptor (yX6_init).desc).map (fun d => d.parameters.length) = some 0 := ⟨pH_RX6.1, pH_RX6.2, pD_0⟩
theorem pd_X6_begins : (yX6_begins).cls ≠ "java/lang/invoke/MethodHandle" ∧ (yX6_begins).cls ≠ "java/lang/invoke/VarHandle" ∧ (parseMethodDescriptor (yX6_begins).desc).map (fun d => d.parameters.length) = some 1 := ⟨pH_RX6.1, pH_RX6.2, pD_29⟩
theorem pd_X6_in : (yX6_in).cls ≠ "java/lang/invoke/MethodHandle" ∧ (yX6_in).cls ≠ "java/lang/invoke/VarHandle" ∧ (parseMethodDescriptor (yX6_in).desc).map (fun d => d.parameters.length) = some 3 := ⟨pH_RX6.1, pH_RX6.2, pD_22⟩
theorem pd_X6_held : (yX6_held).cls ≠ "java/lang/invoke/MethodHandle" ∧ (yX6_held).cls ≠ "java/lang/invoke/VarHandle" ∧ (parseMethodDescriptor (yX6_held).desc).map (fun d => d.parameters.length) = some 3 := ⟨pH_RX6.1, pH_RX6.2, pD_19⟩
theorem pd_X6_moveAll : (yX6_moveAll).cls ≠ "java/lang/invoke/MethodHandle" ∧ (yX6_moveAll).cls ≠ "java/lang/invoke/VarHandle" ∧ (parseMethodDescriptor (yX6_moveAll).desc).map (fun d => d.parameters.length) = some 2 := ⟨pH_RX6.1, pH_RX6.2, pD_30⟩
theorem pd_X6_isOne : (yX6_isOne).cls ≠ "java/lang/invoke/MethodHandle" ∧ (yX6_isOne).cls ≠ "java/lang/invoke/VarHandle" ∧ (parseMethodDescriptor (yX6_isOne).desc).map (fun d => d.parameters.length) = some 1 := ⟨pH_RX6.1, pH_RX6.2, pD_7⟩
theorem pd_X6_its : (yX6_its).cls ≠ "java/lang/invoke/MethodHandle" ∧ (yX6_its).cls ≠ "java/lang/invoke/VarHandle" ∧ (parseMethodDescriptor (yX6_its).desc).map (fun d => d.parameters.length) = some 2 := ⟨pH_RX6.1, pH_RX6.2, pD_2⟩
theorem pd_X6_sets : (yX6_sets).cls ≠ "java/lang/invoke/MethodHandle" ∧ (yX6_sets).cls ≠ "java/lang/invoke/VarHandle" ∧ (parseMethodDescriptor (yX6_sets).desc).map (fun d => d.parameters.length) = some 3 := ⟨pH_RX6.1, pH_RX6.2, pD_1⟩
theorem pd_X6_becomes : (yX6_becomes).cls ≠ "java/lang/invoke/MethodHandle" ∧ (yX6_becomes).cls ≠ "java/lang/invoke/VarHandle" ∧ (parseMethodDescriptor (yX6_becomes).desc).map (fun d => d.parameters.length) = some 2 := ⟨pH_RX6.1, pH_RX6.2, pD_2⟩
theorem pd_X6_ones : (yX6_ones).cls ≠ "java/lang/invoke/MethodHandle" ∧ (yX6_ones).cls ≠ "java/lang/invoke/VarHandle" ∧ (parseMethodDescriptor (yX6_ones).desc).map (fun d => d.parameters.length) = some 1 := ⟨pH_RX6.1, pH_RX6.2, pD_4⟩
theorem pd_X6_feed : (yX6_feed).cls ≠ "java/lang/invoke/MethodHandle" ∧ (yX6_feed).cls ≠ "java/lang/invoke/VarHandle" ∧ (parseMethodDescriptor (yX6_feed).desc).map (fun d => d.parameters.length) = some 2 := ⟨pH_RX6.1, pH_RX6.2, pD_17⟩
theorem pd_X6_byteAt : (yX6_byteAt).cls ≠ "java/lang/invoke/MethodHandle" ∧ (yX6_byteAt).cls ≠ "java/lang/invoke/VarHandle" ∧ (parseMethodDescriptor (yX6_byteAt).desc).map (fun d => d.parameters.length) = some 1 := ⟨pH_RX6.1, pH_RX6.2, pD_4⟩
theorem pd_X6_isLetter : (yX6_isLetter).cls ≠ "java/lang/invoke/MethodHandle" ∧ (yX6_isLetter).cls ≠ "java/lang/invoke/VarHandle" ∧ (parseMethodDescriptor (yX6_isLetter).desc).map (fun d => d.parameters.length) = some 1 := ⟨pH_RX6.1, pH_RX6.2, pD_7⟩
theorem pd_X6_isDigit : (yX6_isDigit).cls ≠ "java/lang/invoke/MethodHandle" ∧ (yX6_isDigit).cls ≠ "java/lang/invoke/VarHandle" ∧ (parseMethodDescriptor (yX6_isDigit).desc).map (fun d => d.parameters.length) = some 1 := ⟨pH_RX6.1, pH_RX6.2, pD_7⟩
theorem pd_X6_advance : (yX6_advance).cls ≠ "java/lang/invoke/MethodHandle" ∧ (yX6_advance).cls ≠ "java/lang/invoke/VarHandle" ∧ (parseMethodDescriptor (yX6_advance).desc).map (fun d => d.parameters.length) = some 0 := ⟨pH_RX6.1, pH_RX6.2, pD_0⟩
theorem pd_X6_isWord : (yX6_isWord).cls ≠ "java/lang/invoke/MethodHandle" ∧ (yX6_isWord).cls ≠ "java/lang/invoke/VarHandle" ∧ (parseMethodDescriptor (yX6_isWord).desc).map (fun d => d.parameters.length) = some 1 := ⟨pH_RX6.1, pH_RX6.2, pD_31⟩
theorem pd_X6_isMark : (yX6_isMark).cls ≠ "java/lang/invoke/MethodHandle" ∧ (yX6_isMark).cls ≠ "java/lang/invoke/VarHandle" ∧ (parseMethodDescriptor (yX6_isMark).desc).map (fun d => d.parameters.length) = some 1 := ⟨pH_RX6.1, pH_RX6.2, pD_7⟩
theorem pd_X6_kindHere : (yX6_kindHere).cls ≠ "java/lang/invoke/MethodHandle" ∧ (yX6_kindHere).cls ≠ "java/lang/invoke/VarHandle" ∧ (parseMethodDescriptor (yX6_kindHere).desc).map (fun d => d.parameters.length) = some 0 := ⟨pH_RX6.1, pH_RX6.2, pD_9⟩
theorem pd_X6_lawHere : (yX6_lawHere).cls ≠ "java/lang/invoke/MethodHandle" ∧ (yX6_lawHere).cls ≠ "java/lang/invoke/VarHandle" ∧ (parseMethodDescriptor (yX6_lawHere).desc).map (fun d => d.parameters.length) = some 0 := ⟨pH_RX6.1, pH_RX6.2, pD_9⟩
theorem pd_X6_wantNumber : (yX6_wantNumber).cls ≠ "java/lang/invoke/MethodHandle" ∧ (yX6_wantNumber).cls ≠ "java/lang/invoke/VarHandle" ∧ (parseMethodDescriptor (yX6_wantNumber).desc).map (fun d => d.parameters.length) = some 2 := ⟨pH_RX6.1, pH_RX6.2, pD_2⟩
theorem pd_X6_wantEnd : (yX6_wantEnd).cls ≠ "java/lang/invoke/MethodHandle" ∧ (yX6_wantEnd).cls ≠ "java/lang/invoke/VarHandle" ∧ (parseMethodDescriptor (yX6_wantEnd).desc).map (fun d => d.parameters.length) = some 0 := ⟨pH_RX6.1, pH_RX6.2, pD_0⟩
theorem pd_X6_mayWant : (yX6_mayWant).cls ≠ "java/lang/invoke/MethodHandle" ∧ (yX6_mayWant).cls ≠ "java/lang/invoke/VarHandle" ∧ (parseMethodDescriptor (yX6_mayWant).desc).map (fun d => d.parameters.length) = some 2 := ⟨pH_RX6.1, pH_RX6.2, pD_17⟩
theorem pd_X6_wantOne : (yX6_wantOne).cls ≠ "java/lang/invoke/MethodHandle" ∧ (yX6_wantOne).cls ≠ "java/lang/invoke/VarHandle" ∧ (parseMethodDescriptor (yX6_wantOne).desc).map (fun d => d.parameters.length) = some 1 := ⟨pH_RX6.1, pH_RX6.2, pD_3⟩
theorem pd_X6_wantClause : (yX6_wantClause).cls ≠ "java/lang/invoke/MethodHandle" ∧ (yX6_wantClause).cls ≠ "java/lang/invoke/VarHandle" ∧ (parseMethodDescriptor (yX6_wantClause).desc).map (fun d => d.parameters.length) = some 0 := ⟨pH_RX6.1, pH_RX6.2, pD_0⟩
theorem pd_X6_post : (yX6_post).cls ≠ "java/lang/invoke/MethodHandle" ∧ (yX6_post).cls ≠ "java/lang/invoke/VarHandle" ∧ (parseMethodDescriptor (yX6_post).desc).map (fun d => d.parameters.length) = some 0 := ⟨pH_RX6.1, pH_RX6.2, pD_9⟩
theorem pd_X6_mostOf : (yX6_mostOf).cls ≠ "java/lang/invoke/MethodHandle" ∧ (yX6_mostOf).cls ≠ "java/lang/invoke/VarHandle" ∧ (parseMethodDescriptor (yX6_mostOf).desc).map (fun d => d.parameters.length) = some 1 := ⟨pH_RX6.1, pH_RX6.2, pD_4⟩
theorem pd_X6_set : (yX6_set).cls ≠ "java/lang/invoke/MethodHandle" ∧ (yX6_set).cls ≠ "java/lang/invoke/VarHandle" ∧ (parseMethodDescriptor (yX6_set).desc).map (fun d => d.parameters.length) = some 2 := ⟨pH_RX6.1, pH_RX6.2, pD_2⟩
theorem pd_X6_lawOf : (yX6_lawOf).cls ≠ "java/lang/invoke/MethodHandle" ∧ (yX6_lawOf).cls ≠ "java/lang/invoke/VarHandle" ∧ (parseMethodDescriptor (yX6_lawOf).desc).map (fun d => d.parameters.length) = some 1 := ⟨pH_RX6.1, pH_RX6.2, pD_4⟩
theorem pd_X6_isKind : (yX6_isKind).cls ≠ "java/lang/invoke/MethodHandle" ∧ (yX6_isKind).cls ≠ "java/lang/invoke/VarHandle" ∧ (parseMethodDescriptor (yX6_isKind).desc).map (fun d => d.parameters.length) = some 2 := ⟨pH_RX6.1, pH_RX6.2, pD_23⟩
theorem pd_X6_person : (yX6_person).cls ≠ "java/lang/invoke/MethodHandle" ∧ (yX6_person).cls ≠ "java/lang/invoke/VarHandle" ∧ (parseMethodDescriptor (yX6_person).desc).map (fun d => d.parameters.length) = some 4 := ⟨pH_RX6.1, pH_RX6.2, pD_18⟩
theorem pd_X6_of : (yX6_of).cls ≠ "java/lang/invoke/MethodHandle" ∧ (yX6_of).cls ≠ "java/lang/invoke/VarHandle" ∧ (parseMethodDescriptor (yX6_of).desc).map (fun d => d.parameters.length) = some 2 := ⟨pH_RX6.1, pH_RX6.2, pD_2⟩
theorem pd_X6_thinksOf : (yX6_thinksOf).cls ≠ "java/lang/invoke/MethodHandle" ∧ (yX6_thinksOf).cls ≠ "java/lang/invoke/VarHandle" ∧ (parseMethodDescriptor (yX6_thinksOf).desc).map (fun d => d.parameters.length) = some 1 := ⟨pH_RX6.1, pH_RX6.2, pD_4⟩
theorem pd_X6_needs : (yX6_needs).cls ≠ "java/lang/invoke/MethodHandle" ∧ (yX6_needs).cls ≠ "java/lang/invoke/VarHandle" ∧ (parseMethodDescriptor (yX6_needs).desc).map (fun d => d.parameters.length) = some 1 := ⟨pH_RX6.1, pH_RX6.2, pD_4⟩
theorem pd_X6_says : (yX6_says).cls ≠ "java/lang/invoke/MethodHandle" ∧ (yX6_says).cls ≠ "java/lang/invoke/VarHandle" ∧ (parseMethodDescriptor (yX6_says).desc).map (fun d => d.parameters.length) = some 1 := ⟨pH_RX6.1, pH_RX6.2, pD_4⟩
theorem pd_X6_isUsed : (yX6_isUsed).cls ≠ "java/lang/invoke/MethodHandle" ∧ (yX6_isUsed).cls ≠ "java/lang/invoke/VarHandle" ∧ (parseMethodDescriptor (yX6_isUsed).desc).map (fun d => d.parameters.length) = some 1 := ⟨pH_RX6.1, pH_RX6.2, pD_7⟩
theorem pd_X6_does : (yX6_does).cls ≠ "java/lang/invoke/MethodHandle" ∧ (yX6_does).cls ≠ "java/lang/invoke/VarHandle" ∧ (parseMethodDescriptor (yX6_does).desc).map (fun d => d.parameters.length) = some 2 := ⟨pH_RX6.1, pH_RX6.2, pD_2⟩
theorem pd_X6_mind : (yX6_mind).cls ≠ "java/lang/invoke/MethodHandle" ∧ (yX6_mind).cls ≠ "java/lang/invoke/VarHandle" ∧ (parseMethodDescriptor (yX6_mind).desc).map (fun d => d.parameters.length) = some 3 := ⟨pH_RX6.1, pH_RX6.2, pD_19⟩
theorem pd_X6_thought : (yX6_thought).cls ≠ "java/lang/invoke/MethodHandle" ∧ (yX6_thought).cls ≠ "java/lang/invoke/VarHandle" ∧ (parseMethodDescriptor (yX6_thought).desc).map (fun d => d.parameters.length) = some 2 := ⟨pH_RX6.1, pH_RX6.2, pD_2⟩
theorem pd_X6_own : (yX6_own).cls ≠ "java/lang/invoke/MethodHandle" ∧ (yX6_own).cls ≠ "java/lang/invoke/VarHandle" ∧ (parseMethodDescriptor (yX6_own).desc).map (fun d => d.parameters.length) = some 2 := ⟨pH_RX6.1, pH_RX6.2, pD_2⟩
theorem pd_X6_give : (yX6_give).cls ≠ "java/lang/invoke/MethodHandle" ∧ (yX6_give).cls ≠ "java/lang/invoke/VarHandle" ∧ (parseMethodDescriptor (yX6_give).desc).map (fun d => d.parameters.length) = some 2 := ⟨pH_RX6.1, pH_RX6.2, pD_2⟩
theorem pd_X6_isReady : (yX6_isReady).cls ≠ "java/lang/invoke/MethodHandle" ∧ (yX6_isReady).cls ≠ "java/lang/invoke/VarHandle" ∧ (parseMethodDescriptor (yX6_isReady).desc).map (fun d => d.parameters.length) = some 1 := ⟨pH_RX6.1, pH_RX6.2, pD_7⟩
theorem pd_X6_readySet : (yX6_readySet).cls ≠ "java/lang/invoke/MethodHandle" ∧ (yX6_readySet).cls ≠ "java/lang/invoke/VarHandle" ∧ (parseMethodDescriptor (yX6_readySet).desc).map (fun d => d.parameters.length) = some 0 := ⟨pH_RX6.1, pH_RX6.2, pD_9⟩
theorem pd_X6_next : (yX6_next).cls ≠ "java/lang/invoke/MethodHandle" ∧ (yX6_next).cls ≠ "java/lang/invoke/VarHandle" ∧ (parseMethodDescriptor (yX6_next).desc).map (fun d => d.parameters.length) = some 0 := ⟨pH_RX6.1, pH_RX6.2, pD_9⟩
theorem pd_X6_pageGoes : (yX6_pageGoes).cls ≠ "java/lang/invoke/MethodHandle" ∧ (yX6_pageGoes).cls ≠ "java/lang/invoke/VarHandle" ∧ (parseMethodDescriptor (yX6_pageGoes).desc).map (fun d => d.parameters.length) = some 0 := ⟨pH_RX6.1, pH_RX6.2, pD_0⟩
theorem pd_X6_writes : (yX6_writes).cls ≠ "java/lang/invoke/MethodHandle" ∧ (yX6_writes).cls ≠ "java/lang/invoke/VarHandle" ∧ (parseMethodDescriptor (yX6_writes).desc).map (fun d => d.parameters.length) = some 1 := ⟨pH_RX6.1, pH_RX6.2, pD_4⟩
theorem pd_X6_weekGoes : (yX6_weekGoes).cls ≠ "java/lang/invoke/MethodHandle" ∧ (yX6_weekGoes).cls ≠ "java/lang/invoke/VarHandle" ∧ (parseMethodDescriptor (yX6_weekGoes).desc).map (fun d => d.parameters.length) = some 0 := ⟨pH_RX6.1, pH_RX6.2, pD_9⟩
theorem pd_X6_sumOf : (yX6_sumOf).cls ≠ "java/lang/invoke/MethodHandle" ∧ (yX6_sumOf).cls ≠ "java/lang/invoke/VarHandle" ∧ (parseMethodDescriptor (yX6_sumOf).desc).map (fun d => d.parameters.length) = some 1 := ⟨pH_RX6.1, pH_RX6.2, pD_4⟩
theorem pd_X6_weeks : (yX6_weeks).cls ≠ "java/lang/invoke/MethodHandle" ∧ (yX6_weeks).cls ≠ "java/lang/invoke/VarHandle" ∧ (parseMethodDescriptor (yX6_weeks).desc).map (fun d => d.parameters.length) = some 1 := ⟨pH_RX6.1, pH_RX6.2, pD_4⟩
theorem pd_X6_drawn : (yX6_drawn).cls ≠ "java/lang/invoke/MethodHandle" ∧ (yX6_drawn).cls ≠ "java/lang/invoke/VarHandle" ∧ (parseMethodDescriptor (yX6_drawn).desc).map (fun d => d.parameters.length) = some 0 := ⟨pH_RX6.1, pH_RX6.2, pD_9⟩
theorem pd_X6_seed : (yX6_seed).cls ≠ "java/lang/invoke/MethodHandle" ∧ (yX6_seed).cls ≠ "java/lang/invoke/VarHandle" ∧ (parseMethodDescriptor (yX6_seed).desc).map (fun d => d.parameters.length) = some 1 := ⟨pH_RX6.1, pH_RX6.2, pD_4⟩
theorem pd_X6_weekByDraws : (yX6_weekByDraws).cls ≠ "java/lang/invoke/MethodHandle" ∧ (yX6_weekByDraws).cls ≠ "java/lang/invoke/VarHandle" ∧ (parseMethodDescriptor (yX6_weekByDraws).desc).map (fun d => d.parameters.length) = some 0 := ⟨pH_RX6.1, pH_RX6.2, pD_9⟩
theorem pd_X6_week : (yX6_week).cls ≠ "java/lang/invoke/MethodHandle" ∧ (yX6_week).cls ≠ "java/lang/invoke/VarHandle" ∧ (parseMethodDescriptor (yX6_week).desc).map (fun d => d.parameters.length) = some 0 := ⟨pH_RX6.1, pH_RX6.2, pD_9⟩
theorem pd_X6_poor : (yX6_poor).cls ≠ "java/lang/invoke/MethodHandle" ∧ (yX6_poor).cls ≠ "java/lang/invoke/VarHandle" ∧ (parseMethodDescriptor (yX6_poor).desc).map (fun d => d.parameters.length) = some 1 := ⟨pH_RX6.1, pH_RX6.2, pD_4⟩
theorem pd_X6_state : (yX6_state).cls ≠ "java/lang/invoke/MethodHandle" ∧ (yX6_state).cls ≠ "java/lang/invoke/VarHandle" ∧ (parseMethodDescriptor (yX6_state).desc).map (fun d => d.parameters.length) = some 1 := ⟨pH_RX6.1, pH_RX6.2, pD_4⟩
theorem pd_X6_wordsBehind : (yX6_wordsBehind).cls ≠ "java/lang/invoke/MethodHandle" ∧ (yX6_wordsBehind).cls ≠ "java/lang/invoke/VarHandle" ∧ (parseMethodDescriptor (yX6_wordsBehind).desc).map (fun d => d.parameters.length) = some 1 := ⟨pH_RX6.1, pH_RX6.2, pD_4⟩
theorem pd_X6_words : (yX6_words).cls ≠ "java/lang/invoke/MethodHandle" ∧ (yX6_words).cls ≠ "java/lang/invoke/VarHandle" ∧ (parseMethodDescriptor (yX6_words).desc).map (fun d => d.parameters.length) = some 1 := ⟨pH_RX6.1, pH_RX6.2, pD_4⟩
theorem pd_X6_gets : (yX6_gets).cls ≠ "java/lang/invoke/MethodHandle" ∧ (yX6_gets).cls ≠ "java/lang/invoke/VarHandle" ∧ (parseMethodDescriptor (yX6_gets).desc).map (fun d => d.parameters.length) = some 1 := ⟨pH_RX6.1, pH_RX6.2, pD_4⟩
theorem pd_X6_idle : (yX6_idle).cls ≠ "java/lang/invoke/MethodHandle" ∧ (yX6_idle).cls ≠ "java/lang/invoke/VarHandle" ∧ (parseMethodDescriptor (yX6_idle).desc).map (fun d => d.parameters.length) = some 0 := ⟨pH_RX6.1, pH_RX6.2, pD_9⟩
theorem pd_X6_vanFor : (yX6_vanFor).cls ≠ "java/lang/invoke/MethodHandle" ∧ (yX6_vanFor).cls ≠ "java/lang/invoke/VarHandle" ∧ (parseMethodDescriptor (yX6_vanFor).desc).map (fun d => d.parameters.length) = some 2 := ⟨pH_RX6.1, pH_RX6.2, pD_2⟩
theorem pd_X6_kindFor : (yX6_kindFor).cls ≠ "java/lang/invoke/MethodHandle" ∧ (yX6_kindFor).cls ≠ "java/lang/invoke/VarHandle" ∧ (parseMethodDescriptor (yX6_kindFor).desc).map (fun d => d.parameters.length) = some 2 := ⟨pH_RX6.1, pH_RX6.2, pD_2⟩
theorem pd_X6_thoughtFor : (yX6_thoughtFor).cls ≠ "java/lang/invoke/MethodHandle" ∧ (yX6_thoughtFor).cls ≠ "java/lang/invoke/VarHandle" ∧ (parseMethodDescriptor (yX6_thoughtFor).desc).map (fun d => d.parameters.length) = some 2 := ⟨pH_RX6.1, pH_RX6.2, pD_2⟩
theorem pd_X6_needed : (yX6_needed).cls ≠ "java/lang/invoke/MethodHandle" ∧ (yX6_needed).cls ≠ "java/lang/invoke/VarHandle" ∧ (parseMethodDescriptor (yX6_needed).desc).map (fun d => d.parameters.length) = some 1 := ⟨pH_RX6.1, pH_RX6.2, pD_4⟩
theorem pd_X6_fewest : (yX6_fewest).cls ≠ "java/lang/invoke/MethodHandle" ∧ (yX6_fewest).cls ≠ "java/lang/invoke/VarHandle" ∧ (parseMethodDescriptor (yX6_fewest).desc).map (fun d => d.parameters.length) = some 2 := ⟨pH_RX6.1, pH_RX6.2, pD_2⟩
theorem pd_X6_thoughtOf : (yX6_thoughtOf).cls ≠ "java/lang/invoke/MethodHandle" ∧ (yX6_thoughtOf).cls ≠ "java/lang/invoke/VarHandle" ∧ (parseMethodDescriptor (yX6_thoughtOf).desc).map (fun d => d.parameters.length) = some 1 := ⟨pH_RX6.1, pH_RX6.2, pD_4⟩
theorem pd_X6_packed : (yX6_packed).cls ≠ "java/lang/invoke/MethodHandle" ∧ (yX6_packed).cls ≠ "java/lang/invoke/VarHandle" ∧ (parseMethodDescriptor (yX6_packed).desc).map (fun d => d.parameters.length) = some 1 := ⟨pH_RX6.1, pH_RX6.2, pD_4⟩
theorem pd_X6_isSo : (yX6_isSo).cls ≠ "java/lang/invoke/MethodHandle" ∧ (yX6_isSo).cls ≠ "java/lang/invoke/VarHandle" ∧ (parseMethodDescriptor (yX6_isSo).desc).map (fun d => d.parameters.length) = some 1 := ⟨pH_RX6.1, pH_RX6.2, pD_7⟩
theorem pd_X6_fits : (yX6_fits).cls ≠ "java/lang/invoke/MethodHandle" ∧ (yX6_fits).cls ≠ "java/lang/invoke/VarHandle" ∧ (parseMethodDescriptor (yX6_fits).desc).map (fun d => d.parameters.length) = some 3 := ⟨pH_RX6.1, pH_RX6.2, pD_19⟩
theorem pd_X6_lowest : (yX6_lowest).cls ≠ "java/lang/invoke/MethodHandle" ∧ (yX6_lowest).cls ≠ "java/lang/invoke/VarHandle" ∧ (parseMethodDescriptor (yX6_lowest).desc).map (fun d => d.parameters.length) = some 3 := ⟨pH_RX6.1, pH_RX6.2, pD_27⟩
theorem pd_X6_powerOf : (yX6_powerOf).cls ≠ "java/lang/invoke/MethodHandle" ∧ (yX6_powerOf).cls ≠ "java/lang/invoke/VarHandle" ∧ (parseMethodDescriptor (yX6_powerOf).desc).map (fun d => d.parameters.length) = some 2 := ⟨pH_RX6.1, pH_RX6.2, pD_21⟩
theorem pd_X6_odds : (yX6_odds).cls ≠ "java/lang/invoke/MethodHandle" ∧ (yX6_odds).cls ≠ "java/lang/invoke/VarHandle" ∧ (parseMethodDescriptor (yX6_odds).desc).map (fun d => d.parameters.length) = some 3 := ⟨pH_RX6.1, pH_RX6.2, pD_20⟩
theorem pd_X6_hope : (yX6_hope).cls ≠ "java/lang/invoke/MethodHandle" ∧ (yX6_hope).cls ≠ "java/lang/invoke/VarHandle" ∧ (parseMethodDescriptor (yX6_hope).desc).map (fun d => d.parameters.length) = some 2 := ⟨pH_RX6.1, pH_RX6.2, pD_21⟩
theorem pd_X6_findRows : (yX6_findRows).cls ≠ "java/lang/invoke/MethodHandle" ∧ (yX6_findRows).cls ≠ "java/lang/invoke/VarHandle" ∧ (parseMethodDescriptor (yX6_findRows).desc).map (fun d => d.parameters.length) = some 2 := ⟨pH_RX6.1, pH_RX6.2, pD_10⟩
theorem pd_X6_prove : (yX6_prove).cls ≠ "java/lang/invoke/MethodHandle" ∧ (yX6_prove).cls ≠ "java/lang/invoke/VarHandle" ∧ (parseMethodDescriptor (yX6_prove).desc).map (fun d => d.parameters.length) = some 2 := ⟨pH_RX6.1, pH_RX6.2, pD_2⟩
theorem pd_X6_isRow : (yX6_isRow).cls ≠ "java/lang/invoke/MethodHandle" ∧ (yX6_isRow).cls ≠ "java/lang/invoke/VarHandle" ∧ (parseMethodDescriptor (yX6_isRow).desc).map (fun d => d.parameters.length) = some 2 := ⟨pH_RX6.1, pH_RX6.2, pD_23⟩
theorem pd_X6_row : (yX6_row).cls ≠ "java/lang/invoke/MethodHandle" ∧ (yX6_row).cls ≠ "java/lang/invoke/VarHandle" ∧ (parseMethodDescriptor (yX6_row).desc).map (fun d => d.parameters.length) = some 2 := ⟨pH_RX6.1, pH_RX6.2, pD_2⟩
theorem pd_X6_alterRow : (yX6_alterRow).cls ≠ "java/lang/invoke/MethodHandle" ∧ (yX6_alterRow).cls ≠ "java/lang/invoke/VarHandle" ∧ (parseMethodDescriptor (yX6_alterRow).desc).map (fun d => d.parameters.length) = some 3 := ⟨pH_RX6.1, pH_RX6.2, pD_19⟩
theorem pd_X6_judge : (yX6_judge).cls ≠ "java/lang/invoke/MethodHandle" ∧ (yX6_judge).cls ≠ "java/lang/invoke/VarHandle" ∧ (parseMethodDescriptor (yX6_judge).desc).map (fun d => d.parameters.length) = some 1 := ⟨pH_RX6.1, pH_RX6.2, pD_4⟩
theorem pd_X6_minds : (yX6_minds).cls ≠ "java/lang/invoke/MethodHandle" ∧ (yX6_minds).cls ≠ "java/lang/invoke/VarHandle" ∧ (parseMethodDescriptor (yX6_minds).desc).map (fun d => d.parameters.length) = some 4 := ⟨pH_RX6.1, pH_RX6.2, pD_18⟩
theorem pd_X6_isShelf : (yX6_isShelf).cls ≠ "java/lang/invoke/MethodHandle" ∧ (yX6_isShelf).cls ≠ "java/lang/invoke/VarHandle" ∧ (parseMethodDescriptor (yX6_isShelf).desc).map (fun d => d.parameters.length) = some 1 := ⟨pH_RX6.1, pH_RX6.2, pD_7⟩
theorem pd_X6_sheet : (yX6_sheet).cls ≠ "java/lang/invoke/MethodHandle" ∧ (yX6_sheet).cls ≠ "java/lang/invoke/VarHandle" ∧ (parseMethodDescriptor (yX6_sheet).desc).map (fun d => d.parameters.length) = some 3 := ⟨pH_RX6.1, pH_RX6.2, pD_19⟩
theorem pd_X6_put : (yX6_put).cls ≠ "java/lang/invoke/MethodHandle" ∧ (yX6_put).cls ≠ "java/lang/invoke/VarHandle" ∧ (parseMethodDescriptor (yX6_put).desc).map (fun d => d.parameters.length) = some 3 := ⟨pH_RX6.1, pH_RX6.2, pD_19⟩
theorem pd_X6_lacksSort : (yX6_lacksSort).cls ≠ "java/lang/invoke/MethodHandle" ∧ (yX6_lacksSort).cls ≠ "java/lang/invoke/VarHandle" ∧ (parseMethodDescriptor (yX6_lacksSort).desc).map (fun d => d.parameters.length) = some 2 := ⟨pH_RX6.1, pH_RX6.2, pD_2⟩
theorem pd_X6_item : (yX6_item).cls ≠ "java/lang/invoke/MethodHandle" ∧ (yX6_item).cls ≠ "java/lang/invoke/VarHandle" ∧ (parseMethodDescriptor (yX6_item).desc).map (fun d => d.parameters.length) = some 3 := ⟨pH_RX6.1, pH_RX6.2, pD_19⟩
theorem pd_X6_isHeld : (yX6_isHeld).cls ≠ "java/lang/invoke/MethodHandle" ∧ (yX6_isHeld).cls ≠ "java/lang/invoke/VarHandle" ∧ (parseMethodDescriptor (yX6_isHeld).desc).map (fun d => d.parameters.length) = some 2 := ⟨pH_RX6.1, pH_RX6.2, pD_23⟩
theorem pd_X6_shelf : (yX6_shelf).cls ≠ "java/lang/invoke/MethodHandle" ∧ (yX6_shelf).cls ≠ "java/lang/invoke/VarHandle" ∧ (parseMethodDescriptor (yX6_shelf).desc).map (fun d => d.parameters.length) = some 3 := ⟨pH_RX6.1, pH_RX6.2, pD_19⟩
theorem pd_X6_kindOn : (yX6_kindOn).cls ≠ "java/lang/invoke/MethodHandle" ∧ (yX6_kindOn).cls ≠ "java/lang/invoke/VarHandle" ∧ (parseMethodDescriptor (yX6_kindOn).desc).map (fun d => d.parameters.length) = some 1 := ⟨pH_RX6.1, pH_RX6.2, pD_4⟩
theorem pd_X6_isUnder : (yX6_isUnder).cls ≠ "java/lang/invoke/MethodHandle" ∧ (yX6_isUnder).cls ≠ "java/lang/invoke/VarHandle" ∧ (parseMethodDescriptor (yX6_isUnder).desc).map (fun d => d.parameters.length) = some 2 := ⟨pH_RX6.1, pH_RX6.2, pD_23⟩
theorem pd_X6_taken : (yX6_taken).cls ≠ "java/lang/invoke/MethodHandle" ∧ (yX6_taken).cls ≠ "java/lang/invoke/VarHandle" ∧ (parseMethodDescriptor (yX6_taken).desc).map (fun d => d.parameters.length) = some 2 := ⟨pH_RX6.1, pH_RX6.2, pD_2⟩
theorem pd_X6_ran : (yX6_ran).cls ≠ "java/lang/invoke/MethodHandle" ∧ (yX6_ran).cls ≠ "java/lang/invoke/VarHandle" ∧ (parseMethodDescriptor (yX6_ran).desc).map (fun d => d.parameters.length) = some 1 := ⟨pH_RX6.1, pH_RX6.2, pD_3⟩
theorem pd_X6_plainThinks : (yX6_plainThinks).cls ≠ "java/lang/invoke/MethodHandle" ∧ (yX6_plainThinks).cls ≠ "java/lang/invoke/VarHandle" ∧ (parseMethodDescriptor (yX6_plainThinks).desc).map (fun d => d.parameters.length) = some 1 := ⟨pH_RX6.1, pH_RX6.2, pD_4⟩
theorem pd_X6_widowThinks : (yX6_widowThinks).cls ≠ "java/lang/invoke/MethodHandle" ∧ (yX6_widowThinks).cls ≠ "java/lang/invoke/VarHandle" ∧ (parseMethodDescriptor (yX6_widowThinks).desc).map (fun d => d.parameters.length) = some 1 := ⟨pH_RX6.1, pH_RX6.2, pD_4⟩
theorem pd_X6_thinksIt : (yX6_thinksIt).cls ≠ "java/lang/invoke/MethodHandle" ∧ (yX6_thinksIt).cls ≠ "java/lang/invoke/VarHandle" ∧ (parseMethodDescriptor (yX6_thinksIt).desc).map (fun d => d.parameters.length) = some 1 := ⟨pH_RX6.1, pH_RX6.2, pD_4⟩
theorem pd_X6_plainAsks : (yX6_plainAsks).cls ≠ "java/lang/invoke/MethodHandle" ∧ (yX6_plainAsks).cls ≠ "java/lang/invoke/VarHandle" ∧ (parseMethodDescriptor (yX6_plainAsks).desc).map (fun d => d.parameters.length) = some 1 := ⟨pH_RX6.1, pH_RX6.2, pD_4⟩
theorem pd_X6_asksIt : (yX6_asksIt).cls ≠ "java/lang/invoke/MethodHandle" ∧ (yX6_asksIt).cls ≠ "java/lang/invoke/VarHandle" ∧ (parseMethodDescriptor (yX6_asksIt).desc).map (fun d => d.parameters.length) = some 1 := ⟨pH_RX6.1, pH_RX6.2, pD_4⟩
theorem pd_X6_plainParts : (yX6_plainParts).cls ≠ "java/lang/invoke/MethodHandle" ∧ (yX6_plainParts).cls ≠ "java/lang/invoke/VarHandle" ∧ (parseMethodDescriptor (yX6_plainParts).desc).map (fun d => d.parameters.length) = some 1 := ⟨pH_RX6.1, pH_RX6.2, pD_4⟩
theorem pd_X6_partsIt : (yX6_partsIt).cls ≠ "java/lang/invoke/MethodHandle" ∧ (yX6_partsIt).cls ≠ "java/lang/invoke/VarHandle" ∧ (parseMethodDescriptor (yX6_partsIt).desc).map (fun d => d.parameters.length) = some 1 := ⟨pH_RX6.1, pH_RX6.2, pD_4⟩
theorem pd_X6_plainWrites : (yX6_plainWrites).cls ≠ "java/lang/invoke/MethodHandle" ∧ (yX6_plainWrites).cls ≠ "java/lang/invoke/VarHandle" ∧ (parseMethodDescriptor (yX6_plainWrites).desc).map (fun d => d.parameters.length) = some 1 := ⟨pH_RX6.1, pH_RX6.2, pD_4⟩
theorem pd_X6_writesIt : (yX6_writesIt).cls ≠ "java/lang/invoke/MethodHandle" ∧ (yX6_writesIt).cls ≠ "java/lang/invoke/VarHandle" ∧ (parseMethodDescriptor (yX6_writesIt).desc).map (fun d => d.parameters.length) = some 1 := ⟨pH_RX6.1, pH_RX6.2, pD_4⟩
theorem pd_X6_act : (yX6_act).cls ≠ "java/lang/invoke/MethodHandle" ∧ (yX6_act).cls ≠ "java/lang/invoke/VarHandle" ∧ (parseMethodDescriptor (yX6_act).desc).map (fun d => d.parameters.length) = some 3 := ⟨pH_RX6.1, pH_RX6.2, pD_19⟩
theorem pd_X6_trace : (yX6_trace).cls ≠ "java/lang/invoke/MethodHandle" ∧ (yX6_trace).cls ≠ "java/lang/invoke/VarHandle" ∧ (parseMethodDescriptor (yX6_trace).desc).map (fun d => d.parameters.length) = some 1 := ⟨pH_RX6.1, pH_RX6.2, pD_4⟩
theorem pd_X6_manyWith : (yX6_manyWith).cls ≠ "java/lang/invoke/MethodHandle" ∧ (yX6_manyWith).cls ≠ "java/lang/invoke/VarHandle" ∧ (parseMethodDescriptor (yX6_manyWith).desc).map (fun d => d.parameters.length) = some 1 := ⟨pH_RX6.1, pH_RX6.2, pD_4⟩
theorem pd_X6_many : (yX6_many).cls ≠ "java/lang/invoke/MethodHandle" ∧ (yX6_many).cls ≠ "java/lang/invoke/VarHandle" ∧ (parseMethodDescriptor (yX6_many).desc).map (fun d => d.parameters.length) = some 1 := ⟨pH_RX6.1, pH_RX6.2, pD_4⟩
theorem pd_X6_keep : (yX6_keep).cls ≠ "java/lang/invoke/MethodHandle" ∧ (yX6_keep).cls ≠ "java/lang/invoke/VarHandle" ∧ (parseMethodDescriptor (yX6_keep).desc).map (fun d => d.parameters.length) = some 0 := ⟨pH_RX6.1, pH_RX6.2, pD_9⟩
theorem pd_X6_again : (yX6_again).cls ≠ "java/lang/invoke/MethodHandle" ∧ (yX6_again).cls ≠ "java/lang/invoke/VarHandle" ∧ (parseMethodDescriptor (yX6_again).desc).map (fun d => d.parameters.length) = some 0 := ⟨pH_RX6.1, pH_RX6.2, pD_9⟩
theorem pd_J6_bitCount_0f7a4 : (yJ6_bitCount_0f7a4).cls ≠ "java/lang/invoke/MethodHandle" ∧ (yJ6_bitCount_0f7a4).cls ≠ "java/lang/invoke/VarHandle" ∧ (parseMethodDescriptor (yJ6_bitCount_0f7a4).desc).map (fun d => d.parameters.length) = some 1 := ⟨pH_RJ6.1, pH_RJ6.2, pD_4⟩
theorem pd_J0_length_8abf5 : (yJ0_length_8abf5).cls ≠ "java/lang/invoke/MethodHandle" ∧ (yJ0_length_8abf5).cls ≠ "java/lang/invoke/VarHandle" ∧ (parseMethodDescriptor (yJ0_length_8abf5).desc).map (fun d => d.parameters.length) = some 0 := ⟨pH_RJ0.1, pH_RJ0.2, pD_9⟩
theorem pd_J0_charAt_5068e : (yJ0_charAt_5068e).cls ≠ "java/lang/invoke/MethodHandle" ∧ (yJ0_charAt_5068e).cls ≠ "java/lang/invoke/VarHandle" ∧ (parseMethodDescriptor (yJ0_charAt_5068e).desc).map (fun d => d.parameters.length) = some 1 := ⟨pH_RJ0.1, pH_RJ0.2, pD_32⟩
theorem pd_J0_coder_7d493 : (yJ0_coder_7d493).cls ≠ "java/lang/invoke/MethodHandle" ∧ (yJ0_coder_7d493).cls ≠ "java/lang/invoke/VarHandle" ∧ (parseMethodDescriptor (yJ0_coder_7d493).desc).map (fun d => d.parameters.length) = some 0 := ⟨pH_RJ0.1, pH_RJ0.2, pD_33⟩
theorem pd_J0_isLatin1_aae02 : (yJ0_isLatin1_aae02).cls ≠ "java/lang/invoke/MethodHandle" ∧ (yJ0_isLatin1_aae02).cls ≠ "java/lang/invoke/VarHandle" ∧ (parseMethodDescriptor (yJ0_isLatin1_aae02).desc).map (fun d => d.parameters.length) = some 0 := ⟨pH_RJ0.1, pH_RJ0.2, pD_34⟩
theorem pd_J0_checkIndex_df160 : (yJ0_checkIndex_df160).cls ≠ "java/lang/invoke/MethodHandle" ∧ (yJ0_checkIndex_df160).cls ≠ "java/lang/invoke/VarHandle" ∧ (parseMethodDescriptor (yJ0_checkIndex_df160).desc).map (fun d => d.parameters.length) = some 2 := ⟨pH_RJ0.1, pH_RJ0.2, pD_10⟩
theorem pd_J1_charAt_3b067 : (yJ1_charAt_3b067).cls ≠ "java/lang/invoke/MethodHandle" ∧ (yJ1_charAt_3b067).cls ≠ "java/lang/invoke/VarHandle" ∧ (parseMethodDescriptor (yJ1_charAt_3b067).desc).map (fun d => d.parameters.length) = some 2 := ⟨pH_RJ1.1, pH_RJ1.2, pD_35⟩
theorem pd_J3_checkIndex_8e157 : (yJ3_checkIndex_8e157).cls ≠ "java/lang/invoke/MethodHandle" ∧ (yJ3_checkIndex_8e157).cls ≠ "java/lang/invoke/VarHandle" ∧ (parseMethodDescriptor (yJ3_checkIndex_8e157).desc).map (fun d => d.parameters.length) = some 3 := ⟨pH_RJ3.1, pH_RJ3.2, pD_36⟩
theorem pd_L_law : (yL_law).cls ≠ "java/lang/invoke/MethodHandle" ∧ (yL_law).cls ≠ "java/lang/invoke/VarHandle" ∧ (parseMethodDescriptor (yL_law).desc).map (fun d => d.parameters.length) = some 1 := ⟨pH_RL.1, pH_RL.2, pD_37⟩
theorem pk_X0_init : pT_chk (yX0_init, iX0_init) = true := pT_mk pR_RX0 rfl rfl (Or.inr rfl)
theorem pk_X0_forget : pT_chk (yX0_forget, iX0_forget) = true := pT_mk pR_RX0 rfl rfl (Or.inl rfl)
theorem pk_X0_play : pT_chk (yX0_play, iX0_play) = true := pT_mk pR_RX0 rfl rfl (Or.inl rfl)
theorem pk_X0_perform : pT_chk (yX0_perform, iX0_perform) = true := pT_mk pR_RX0 rfl rfl (Or.inl rfl)
theorem pk_X0_enter : pT_chk (yX0_enter, iX0_enter) = true := pT_mk pR_RX0 rfl rfl (Or.inl rfl)
theorem pk_X0_thinks : pT_chk (yX0_thinks, iX0_thinks) = true := pT_mk pR_RX0 rfl rfl (Or.inl rfl)
theorem pk_X0_asks : pT_chk (yX0_asks, iX0_asks) = true := pT_mk pR_RX0 rfl rfl (Or.inl rfl)
theorem pk_X0_parts : pT_chk (yX0_parts, iX0_parts) = true := pT_mk pR_RX0 rfl rfl (Or.inl rfl)
theorem pk_X0_writes : pT_chk (yX0_writes, iX0_writes) = true := pT_mk pR_RX0 rfl rfl (Or.inl rfl)
theorem pk_X1_init : pT_chk (yX1_init, iX1_init) = true := pT_mk pR_RX1 rfl rfl (Or.inr rfl)
theorem pk_X1_begin : pT_chk (yX1_begin, iX1_begin) = true := pT_mk pR_RX1 rfl rfl (Or.inl rfl)
theorem pk_X1_become : pT_chk (yX1_become, iX1_become) = true := pT_mk pR_RX1 rfl rfl (Or.inl rfl)
theorem pk_X1_add : pT_chk (yX1_add, iX1_add) = true := pT_mk pR_RX1 rfl rfl (Or.inl rfl)
theorem pk_X1_has : pT_chk (yX1_has, iX1_has) = true := pT_mk pR_RX1 rfl rfl (Or.inl rfl)
theorem pk_X1_sumOf : pT_chk (yX1_sumOf, iX1_sumOf) = true := pT_mk pR_RX1 rfl rfl (Or.inl rfl)
theorem pk_X1_countOf : pT_chk (yX1_countOf, iX1_countOf) = true := pT_mk pR_RX1 rfl rfl (Or.inl rfl)
theorem pk_X1_readySet : pT_chk (yX1_readySet, iX1_readySet) = true := pT_mk pR_RX1 rfl rfl (Or.inl rfl)
theorem pk_X1_thinking : pT_chk (yX1_thinking, iX1_thinking) = true := pT_mk pR_RX1 rfl rfl (Or.inl rfl)
theorem pk_X1_needing : pT_chk (yX1_needing, iX1_needing) = true := pT_mk pR_RX1 rfl rfl (Or.inl rfl)
theorem pk_X1_saying : pT_chk (yX1_saying, iX1_saying) = true := pT_mk pR_RX1 rfl rfl (Or.inl rfl)
theorem pk_X1_isUsing : pT_chk (yX1_isUsing, iX1_isUsing) = true := pT_mk pR_RX1 rfl rfl (Or.inl rfl)
theorem pk_X1_passWeek : pT_chk (yX1_passWeek, iX1_passWeek) = true := pT_mk pR_RX1 rfl rfl (Or.inl rfl)
theorem pk_X1_passWeekByDraws : pT_chk (yX1_passWeekByDraws, iX1_passWeekByDraws) = true := pT_mk pR_RX1 rfl rfl (Or.inl rfl)
theorem pk_X1_draw : pT_chk (yX1_draw, iX1_draw) = true := pT_mk pR_RX1 rfl rfl (Or.inl rfl)
theorem pk_X1_think : pT_chk (yX1_think, iX1_think) = true := pT_mk pR_RX1 rfl rfl (Or.inl rfl)
theorem pk_X1_handOut : pT_chk (yX1_handOut, iX1_handOut) = true := pT_mk pR_RX1 rfl rfl (Or.inl rfl)
theorem pk_X1_keenest : pT_chk (yX1_keenest, iX1_keenest) = true := pT_mk pR_RX1 rfl rfl (Or.inl rfl)
theorem pk_X1_speak : pT_chk (yX1_speak, iX1_speak) = true := pT_mk pR_RX1 rfl rfl (Or.inl rfl)
theorem pk_X2_init : pT_chk (yX2_init, iX2_init) = true := pT_mk pR_RX2 rfl rfl (Or.inr rfl)
theorem pk_X2_begin : pT_chk (yX2_begin, iX2_begin) = true := pT_mk pR_RX2 rfl rfl (Or.inl rfl)
theorem pk_X3_init : pT_chk (yX3_init, iX3_init) = true := pT_mk pR_RX3 rfl rfl (Or.inr rfl)
theorem pk_X3_holdPerson : pT_chk (yX3_holdPerson, iX3_holdPerson) = true := pT_mk pR_RX3 rfl rfl (Or.inl rfl)
theorem pk_X3_holdRow : pT_chk (yX3_holdRow, iX3_holdRow) = true := pT_mk pR_RX3 rfl rfl (Or.inl rfl)
theorem pk_X4_init : pT_chk (yX4_init, iX4_init) = true := pT_mk pR_RX4 rfl rfl (Or.inr rfl)
theorem pk_X4_take : pT_chk (yX4_take, iX4_take) = true := pT_mk pR_RX4 rfl rfl (Or.inl rfl)
theorem pk_X4_tell : pT_chk (yX4_tell, iX4_tell) = true := pT_mk pR_RX4 rfl rfl (Or.inl rfl)
theorem pk_X4_cut : pT_chk (yX4_cut, iX4_cut) = true := pT_mk pR_RX4 rfl rfl (Or.inl rfl)
theorem pk_X4_cutName : pT_chk (yX4_cutName, iX4_cutName) = true := pT_mk pR_RX4 rfl rfl (Or.inl rfl)
theorem pk_X4_cutNumber : pT_chk (yX4_cutNumber, iX4_cutNumber) = true := pT_mk pR_RX4 rfl rfl (Or.inl rfl)
theorem pk_X4_addToken : pT_chk (yX4_addToken, iX4_addToken) = true := pT_mk pR_RX4 rfl rfl (Or.inl rfl)
theorem pk_X4_wordAt : pT_chk (yX4_wordAt, iX4_wordAt) = true := pT_mk pR_RX4 rfl rfl (Or.inl rfl)
theorem pk_X4_isSpelt : pT_chk (yX4_isSpelt, iX4_isSpelt) = true := pT_mk pR_RX4 rfl rfl (Or.inl rfl)
theorem pk_X4_spelling : pT_chk (yX4_spelling, iX4_spelling) = true := pT_mk pR_RX4 rfl rfl (Or.inl rfl)
theorem pk_X4_isLetter : pT_chk (yX4_isLetter, iX4_isLetter) = true := pT_mk pR_RX4 rfl rfl (Or.inl rfl)
theorem pk_X4_isDigit : pT_chk (yX4_isDigit, iX4_isDigit) = true := pT_mk pR_RX4 rfl rfl (Or.inl rfl)
theorem pk_X4_tellOne : pT_chk (yX4_tellOne, iX4_tellOne) = true := pT_mk pR_RX4 rfl rfl (Or.inl rfl)
theorem pk_X4_tellPerson : pT_chk (yX4_tellPerson, iX4_tellPerson) = true := pT_mk pR_RX4 rfl rfl (Or.inl rfl)
theorem pk_X4_numberBehind : pT_chk (yX4_numberBehind, iX4_numberBehind) = true := pT_mk pR_RX4 rfl rfl (Or.inl rfl)
theorem pk_X4_numberUpTo : pT_chk (yX4_numberUpTo, iX4_numberUpTo) = true := pT_mk pR_RX4 rfl rfl (Or.inl rfl)
theorem pk_X4_passSemicolon : pT_chk (yX4_passSemicolon, iX4_passSemicolon) = true := pT_mk pR_RX4 rfl rfl (Or.inl rfl)
theorem pk_X4_fail : pT_chk (yX4_fail, iX4_fail) = true := pT_mk pR_RX4 rfl rfl (Or.inl rfl)
theorem pk_X5_init : pT_chk (yX5_init, iX5_init) = true := pT_mk pR_RX5 rfl rfl (Or.inr rfl)
theorem pk_X5_feed : pT_chk (yX5_feed, iX5_feed) = true := pT_mk pR_RX5 rfl rfl (Or.inl rfl)
theorem pk_X5_post : pT_chk (yX5_post, iX5_post) = true := pT_mk pR_RX5 rfl rfl (Or.inl rfl)
theorem pk_X5_set : pT_chk (yX5_set, iX5_set) = true := pT_mk pR_RX5 rfl rfl (Or.inl rfl)
theorem pk_X5_lawOf : pT_chk (yX5_lawOf, iX5_lawOf) = true := pT_mk pR_RX5 rfl rfl (Or.inl rfl)
theorem pk_X5_person : pT_chk (yX5_person, iX5_person) = true := pT_mk pR_RX5 rfl rfl (Or.inl rfl)
theorem pk_X5_of : pT_chk (yX5_of, iX5_of) = true := pT_mk pR_RX5 rfl rfl (Or.inl rfl)
theorem pk_X5_does : pT_chk (yX5_does, iX5_does) = true := pT_mk pR_RX5 rfl rfl (Or.inl rfl)
theorem pk_X5_mind : pT_chk (yX5_mind, iX5_mind) = true := pT_mk pR_RX5 rfl rfl (Or.inl rfl)
theorem pk_X5_thought : pT_chk (yX5_thought, iX5_thought) = true := pT_mk pR_RX5 rfl rfl (Or.inl rfl)
theorem pk_X5_own : pT_chk (yX5_own, iX5_own) = true := pT_mk pR_RX5 rfl rfl (Or.inl rfl)
theorem pk_X5_give : pT_chk (yX5_give, iX5_give) = true := pT_mk pR_RX5 rfl rfl (Or.inl rfl)
theorem pk_X5_weeks : pT_chk (yX5_weeks, iX5_weeks) = true := pT_mk pR_RX5 rfl rfl (Or.inl rfl)
theorem pk_X5_seed : pT_chk (yX5_seed, iX5_seed) = true := pT_mk pR_RX5 rfl rfl (Or.inl rfl)
theorem pk_X5_week : pT_chk (yX5_week, iX5_week) = true := pT_mk pR_RX5 rfl rfl (Or.inl rfl)
theorem pk_X5_poor : pT_chk (yX5_poor, iX5_poor) = true := pT_mk pR_RX5 rfl rfl (Or.inl rfl)
theorem pk_X5_state : pT_chk (yX5_state, iX5_state) = true := pT_mk pR_RX5 rfl rfl (Or.inl rfl)
theorem pk_X5_words : pT_chk (yX5_words, iX5_words) = true := pT_mk pR_RX5 rfl rfl (Or.inl rfl)
theorem pk_X5_gets : pT_chk (yX5_gets, iX5_gets) = true := pT_mk pR_RX5 rfl rfl (Or.inl rfl)
theorem pk_X5_idle : pT_chk (yX5_idle, iX5_idle) = true := pT_mk pR_RX5 rfl rfl (Or.inl rfl)
theorem pk_X5_vanFor : pT_chk (yX5_vanFor, iX5_vanFor) = true := pT_mk pR_RX5 rfl rfl (Or.inl rfl)
theorem pk_X5_kindFor : pT_chk (yX5_kindFor, iX5_kindFor) = true := pT_mk pR_RX5 rfl rfl (Or.inl rfl)
theorem pk_X5_thoughtFor : pT_chk (yX5_thoughtFor, iX5_thoughtFor) = true := pT_mk pR_RX5 rfl rfl (Or.inl rfl)
theorem pk_X5_needed : pT_chk (yX5_needed, iX5_needed) = true := pT_mk pR_RX5 rfl rfl (Or.inl rfl)
theorem pk_X5_fewest : pT_chk (yX5_fewest, iX5_fewest) = true := pT_mk pR_RX5 rfl rfl (Or.inl rfl)
theorem pk_X5_packed : pT_chk (yX5_packed, iX5_packed) = true := pT_mk pR_RX5 rfl rfl (Or.inl rfl)
theorem pk_X5_fits : pT_chk (yX5_fits, iX5_fits) = true := pT_mk pR_RX5 rfl rfl (Or.inl rfl)
theorem pk_X5_odds : pT_chk (yX5_odds, iX5_odds) = true := pT_mk pR_RX5 rfl rfl (Or.inl rfl)
theorem pk_X5_hope : pT_chk (yX5_hope, iX5_hope) = true := pT_mk pR_RX5 rfl rfl (Or.inl rfl)
theorem pk_X5_prove : pT_chk (yX5_prove, iX5_prove) = true := pT_mk pR_RX5 rfl rfl (Or.inl rfl)
theorem pk_X5_row : pT_chk (yX5_row, iX5_row) = true := pT_mk pR_RX5 rfl rfl (Or.inl rfl)
theorem pk_X5_alterRow : pT_chk (yX5_alterRow, iX5_alterRow) = true := pT_mk pR_RX5 rfl rfl (Or.inl rfl)
theorem pk_X5_judge : pT_chk (yX5_judge, iX5_judge) = true := pT_mk pR_RX5 rfl rfl (Or.inl rfl)
theorem pk_X5_minds : pT_chk (yX5_minds, iX5_minds) = true := pT_mk pR_RX5 rfl rfl (Or.inl rfl)
theorem pk_X5_sheet : pT_chk (yX5_sheet, iX5_sheet) = true := pT_mk pR_RX5 rfl rfl (Or.inl rfl)
theorem pk_X5_put : pT_chk (yX5_put, iX5_put) = true := pT_mk pR_RX5 rfl rfl (Or.inl rfl)
theorem pk_X5_item : pT_chk (yX5_item, iX5_item) = true := pT_mk pR_RX5 rfl rfl (Or.inl rfl)
theorem pk_X5_shelf : pT_chk (yX5_shelf, iX5_shelf) = true := pT_mk pR_RX5 rfl rfl (Or.inl rfl)
theorem pk_X5_taken : pT_chk (yX5_taken, iX5_taken) = true := pT_mk pR_RX5 rfl rfl (Or.inl rfl)
theorem pk_X5_act : pT_chk (yX5_act, iX5_act) = true := pT_mk pR_RX5 rfl rfl (Or.inl rfl)
theorem pk_X5_trace : pT_chk (yX5_trace, iX5_trace) = true := pT_mk pR_RX5 rfl rfl (Or.inl rfl)
theorem pk_X5_many : pT_chk (yX5_many, iX5_many) = true := pT_mk pR_RX5 rfl rfl (Or.inl rfl)
theorem pk_X5_keep : pT_chk (yX5_keep, iX5_keep) = true := pT_mk pR_RX5 rfl rfl (Or.inl rfl)
theorem pk_X5_again : pT_chk (yX5_again, iX5_again) = true := pT_mk pR_RX5 rfl rfl (Or.inl rfl)
theorem pk_X5_isWithin : pT_chk (yX5_isWithin, iX5_isWithin) = true := pT_mk pR_RX5 rfl rfl (Or.inl rfl)
theorem pk_X5_isKind : pT_chk (yX5_isKind, iX5_isKind) = true := pT_mk pR_RX5 rfl rfl (Or.inl rfl)
theorem pk_X5_isPlace : pT_chk (yX5_isPlace, iX5_isPlace) = true := pT_mk pR_RX5 rfl rfl (Or.inl rfl)
theorem pk_X5_isUnder : pT_chk (yX5_isUnder, iX5_isUnder) = true := pT_mk pR_RX5 rfl rfl (Or.inl rfl)
theorem pk_X5_isInRow : pT_chk (yX5_isInRow, iX5_isInRow) = true := pT_mk pR_RX5 rfl rfl (Or.inl rfl)
theorem pk_X5_trial : pT_chk (yX5_trial, iX5_trial) = true := pT_mk pR_RX5 rfl rfl (Or.inl rfl)
theorem pk_X5_wordsBy : pT_chk (yX5_wordsBy, iX5_wordsBy) = true := pT_mk pR_RX5 rfl rfl (Or.inl rfl)
theorem pk_X5_isTold : pT_chk (yX5_isTold, iX5_isTold) = true := pT_mk pR_RX5 rfl rfl (Or.inl rfl)
theorem pk_X5_leastPacking : pT_chk (yX5_leastPacking, iX5_leastPacking) = true := pT_mk pR_RX5 rfl rfl (Or.inl rfl)
theorem pk_X5_choices : pT_chk (yX5_choices, iX5_choices) = true := pT_mk pR_RX5 rfl rfl (Or.inl rfl)
theorem pk_X5_partOf : pT_chk (yX5_partOf, iX5_partOf) = true := pT_mk pR_RX5 rfl rfl (Or.inl rfl)
theorem pk_X5_commonDivisor : pT_chk (yX5_commonDivisor, iX5_commonDivisor) = true := pT_mk pR_RX5 rfl rfl (Or.inl rfl)
theorem pk_X5_narrowed : pT_chk (yX5_narrowed, iX5_narrowed) = true := pT_mk pR_RX5 rfl rfl (Or.inl rfl)
theorem pk_X6_init : pT_chk (yX6_init, iX6_init) = true := pT_mk pR_RX6 rfl rfl (Or.inr rfl)
theorem pk_X6_begins : pT_chk (yX6_begins, iX6_begins) = true := pT_mk pR_RX6 rfl rfl (Or.inl rfl)
theorem pk_X6_in : pT_chk (yX6_in, iX6_in) = true := pT_mk pR_RX6 rfl rfl (Or.inl rfl)
theorem pk_X6_held : pT_chk (yX6_held, iX6_held) = true := pT_mk pR_RX6 rfl rfl (Or.inl rfl)
theorem pk_X6_moveAll : pT_chk (yX6_moveAll, iX6_moveAll) = true := pT_mk pR_RX6 rfl rfl (Or.inl rfl)
theorem pk_X6_isOne : pT_chk (yX6_isOne, iX6_isOne) = true := pT_mk pR_RX6 rfl rfl (Or.inl rfl)
theorem pk_X6_its : pT_chk (yX6_its, iX6_its) = true := pT_mk pR_RX6 rfl rfl (Or.inl rfl)
theorem pk_X6_sets : pT_chk (yX6_sets, iX6_sets) = true := pT_mk pR_RX6 rfl rfl (Or.inl rfl)
theorem pk_X6_becomes : pT_chk (yX6_becomes, iX6_becomes) = true := pT_mk pR_RX6 rfl rfl (Or.inl rfl)
theorem pk_X6_ones : pT_chk (yX6_ones, iX6_ones) = true := pT_mk pR_RX6 rfl rfl (Or.inl rfl)
theorem pk_X6_feed : pT_chk (yX6_feed, iX6_feed) = true := pT_mk pR_RX6 rfl rfl (Or.inl rfl)
theorem pk_X6_byteAt : pT_chk (yX6_byteAt, iX6_byteAt) = true := pT_mk pR_RX6 rfl rfl (Or.inl rfl)
theorem pk_X6_isLetter : pT_chk (yX6_isLetter, iX6_isLetter) = true := pT_mk pR_RX6 rfl rfl (Or.inl rfl)
theorem pk_X6_isDigit : pT_chk (yX6_isDigit, iX6_isDigit) = true := pT_mk pR_RX6 rfl rfl (Or.inl rfl)
theorem pk_X6_advance : pT_chk (yX6_advance, iX6_advance) = true := pT_mk pR_RX6 rfl rfl (Or.inl rfl)
theorem pk_X6_isWord : pT_chk (yX6_isWord, iX6_isWord) = true := pT_mk pR_RX6 rfl rfl (Or.inl rfl)
theorem pk_X6_isMark : pT_chk (yX6_isMark, iX6_isMark) = true := pT_mk pR_RX6 rfl rfl (Or.inl rfl)
theorem pk_X6_kindHere : pT_chk (yX6_kindHere, iX6_kindHere) = true := pT_mk pR_RX6 rfl rfl (Or.inl rfl)
theorem pk_X6_lawHere : pT_chk (yX6_lawHere, iX6_lawHere) = true := pT_mk pR_RX6 rfl rfl (Or.inl rfl)
theorem pk_X6_wantNumber : pT_chk (yX6_wantNumber, iX6_wantNumber) = true := pT_mk pR_RX6 rfl rfl (Or.inl rfl)
theorem pk_X6_wantEnd : pT_chk (yX6_wantEnd, iX6_wantEnd) = true := pT_mk pR_RX6 rfl rfl (Or.inl rfl)
theorem pk_X6_mayWant : pT_chk (yX6_mayWant, iX6_mayWant) = true := pT_mk pR_RX6 rfl rfl (Or.inl rfl)
theorem pk_X6_wantOne : pT_chk (yX6_wantOne, iX6_wantOne) = true := pT_mk pR_RX6 rfl rfl (Or.inl rfl)
theorem pk_X6_wantClause : pT_chk (yX6_wantClause, iX6_wantClause) = true := pT_mk pR_RX6 rfl rfl (Or.inl rfl)
theorem pk_X6_post : pT_chk (yX6_post, iX6_post) = true := pT_mk pR_RX6 rfl rfl (Or.inl rfl)
theorem pk_X6_mostOf : pT_chk (yX6_mostOf, iX6_mostOf) = true := pT_mk pR_RX6 rfl rfl (Or.inl rfl)
theorem pk_X6_set : pT_chk (yX6_set, iX6_set) = true := pT_mk pR_RX6 rfl rfl (Or.inl rfl)
theorem pk_X6_lawOf : pT_chk (yX6_lawOf, iX6_lawOf) = true := pT_mk pR_RX6 rfl rfl (Or.inl rfl)
theorem pk_X6_isKind : pT_chk (yX6_isKind, iX6_isKind) = true := pT_mk pR_RX6 rfl rfl (Or.inl rfl)
theorem pk_X6_person : pT_chk (yX6_person, iX6_person) = true := pT_mk pR_RX6 rfl rfl (Or.inl rfl)
theorem pk_X6_of : pT_chk (yX6_of, iX6_of) = true := pT_mk pR_RX6 rfl rfl (Or.inl rfl)
theorem pk_X6_thinksOf : pT_chk (yX6_thinksOf, iX6_thinksOf) = true := pT_mk pR_RX6 rfl rfl (Or.inl rfl)
theorem pk_X6_needs : pT_chk (yX6_needs, iX6_needs) = true := pT_mk pR_RX6 rfl rfl (Or.inl rfl)
theorem pk_X6_says : pT_chk (yX6_says, iX6_says) = true := pT_mk pR_RX6 rfl rfl (Or.inl rfl)
theorem pk_X6_isUsed : pT_chk (yX6_isUsed, iX6_isUsed) = true := pT_mk pR_RX6 rfl rfl (Or.inl rfl)
theorem pk_X6_does : pT_chk (yX6_does, iX6_does) = true := pT_mk pR_RX6 rfl rfl (Or.inl rfl)
theorem pk_X6_mind : pT_chk (yX6_mind, iX6_mind) = true := pT_mk pR_RX6 rfl rfl (Or.inl rfl)
theorem pk_X6_thought : pT_chk (yX6_thought, iX6_thought) = true := pT_mk pR_RX6 rfl rfl (Or.inl rfl)
theorem pk_X6_own : pT_chk (yX6_own, iX6_own) = true := pT_mk pR_RX6 rfl rfl (Or.inl rfl)
theorem pk_X6_give : pT_chk (yX6_give, iX6_give) = true := pT_mk pR_RX6 rfl rfl (Or.inl rfl)
theorem pk_X6_isReady : pT_chk (yX6_isReady, iX6_isReady) = true := pT_mk pR_RX6 rfl rfl (Or.inl rfl)
theorem pk_X6_readySet : pT_chk (yX6_readySet, iX6_readySet) = true := pT_mk pR_RX6 rfl rfl (Or.inl rfl)
theorem pk_X6_next : pT_chk (yX6_next, iX6_next) = true := pT_mk pR_RX6 rfl rfl (Or.inl rfl)
theorem pk_X6_pageGoes : pT_chk (yX6_pageGoes, iX6_pageGoes) = true := pT_mk pR_RX6 rfl rfl (Or.inl rfl)
theorem pk_X6_writes : pT_chk (yX6_writes, iX6_writes) = true := pT_mk pR_RX6 rfl rfl (Or.inl rfl)
theorem pk_X6_weekGoes : pT_chk (yX6_weekGoes, iX6_weekGoes) = true := pT_mk pR_RX6 rfl rfl (Or.inl rfl)
theorem pk_X6_sumOf : pT_chk (yX6_sumOf, iX6_sumOf) = true := pT_mk pR_RX6 rfl rfl (Or.inl rfl)
theorem pk_X6_weeks : pT_chk (yX6_weeks, iX6_weeks) = true := pT_mk pR_RX6 rfl rfl (Or.inl rfl)
theorem pk_X6_drawn : pT_chk (yX6_drawn, iX6_drawn) = true := pT_mk pR_RX6 rfl rfl (Or.inl rfl)
theorem pk_X6_seed : pT_chk (yX6_seed, iX6_seed) = true := pT_mk pR_RX6 rfl rfl (Or.inl rfl)
theorem pk_X6_weekByDraws : pT_chk (yX6_weekByDraws, iX6_weekByDraws) = true := pT_mk pR_RX6 rfl rfl (Or.inl rfl)
theorem pk_X6_week : pT_chk (yX6_week, iX6_week) = true := pT_mk pR_RX6 rfl rfl (Or.inl rfl)
theorem pk_X6_poor : pT_chk (yX6_poor, iX6_poor) = true := pT_mk pR_RX6 rfl rfl (Or.inl rfl)
theorem pk_X6_state : pT_chk (yX6_state, iX6_state) = true := pT_mk pR_RX6 rfl rfl (Or.inl rfl)
theorem pk_X6_wordsBehind : pT_chk (yX6_wordsBehind, iX6_wordsBehind) = true := pT_mk pR_RX6 rfl rfl (Or.inl rfl)
theorem pk_X6_words : pT_chk (yX6_words, iX6_words) = true := pT_mk pR_RX6 rfl rfl (Or.inl rfl)
theorem pk_X6_gets : pT_chk (yX6_gets, iX6_gets) = true := pT_mk pR_RX6 rfl rfl (Or.inl rfl)
theorem pk_X6_idle : pT_chk (yX6_idle, iX6_idle) = true := pT_mk pR_RX6 rfl rfl (Or.inl rfl)
theorem pk_X6_vanFor : pT_chk (yX6_vanFor, iX6_vanFor) = true := pT_mk pR_RX6 rfl rfl (Or.inl rfl)
theorem pk_X6_kindFor : pT_chk (yX6_kindFor, iX6_kindFor) = true := pT_mk pR_RX6 rfl rfl (Or.inl rfl)
theorem pk_X6_thoughtFor : pT_chk (yX6_thoughtFor, iX6_thoughtFor) = true := pT_mk pR_RX6 rfl rfl (Or.inl rfl)
theorem pk_X6_needed : pT_chk (yX6_needed, iX6_needed) = true := pT_mk pR_RX6 rfl rfl (Or.inl rfl)
theorem pk_X6_fewest : pT_chk (yX6_fewest, iX6_fewest) = true := pT_mk pR_RX6 rfl rfl (Or.inl rfl)
theorem pk_X6_thoughtOf : pT_chk (yX6_thoughtOf, iX6_thoughtOf) = true := pT_mk pR_RX6 rfl rfl (Or.inl rfl)
theorem pk_X6_packed : pT_chk (yX6_packed, iX6_packed) = true := pT_mk pR_RX6 rfl rfl (Or.inl rfl)
theorem pk_X6_isSo : pT_chk (yX6_isSo, iX6_isSo) = true := pT_mk pR_RX6 rfl rfl (Or.inl rfl)
theorem pk_X6_fits : pT_chk (yX6_fits, iX6_fits) = true := pT_mk pR_RX6 rfl rfl (Or.inl rfl)
theorem pk_X6_lowest : pT_chk (yX6_lowest, iX6_lowest) = true := pT_mk pR_RX6 rfl rfl (Or.inl rfl)
theorem pk_X6_powerOf : pT_chk (yX6_powerOf, iX6_powerOf) = true := pT_mk pR_RX6 rfl rfl (Or.inl rfl)
theorem pk_X6_odds : pT_chk (yX6_odds, iX6_odds) = true := pT_mk pR_RX6 rfl rfl (Or.inl rfl)
theorem pk_X6_hope : pT_chk (yX6_hope, iX6_hope) = true := pT_mk pR_RX6 rfl rfl (Or.inl rfl)
theorem pk_X6_findRows : pT_chk (yX6_findRows, iX6_findRows) = true := pT_mk pR_RX6 rfl rfl (Or.inl rfl)
theorem pk_X6_prove : pT_chk (yX6_prove, iX6_prove) = true := pT_mk pR_RX6 rfl rfl (Or.inl rfl)
theorem pk_X6_isRow : pT_chk (yX6_isRow, iX6_isRow) = true := pT_mk pR_RX6 rfl rfl (Or.inl rfl)
theorem pk_X6_row : pT_chk (yX6_row, iX6_row) = true := pT_mk pR_RX6 rfl rfl (Or.inl rfl)
theorem pk_X6_alterRow : pT_chk (yX6_alterRow, iX6_alterRow) = true := pT_mk pR_RX6 rfl rfl (Or.inl rfl)
theorem pk_X6_judge : pT_chk (yX6_judge, iX6_judge) = true := pT_mk pR_RX6 rfl rfl (Or.inl rfl)
theorem pk_X6_minds : pT_chk (yX6_minds, iX6_minds) = true := pT_mk pR_RX6 rfl rfl (Or.inl rfl)
theorem pk_X6_isShelf : pT_chk (yX6_isShelf, iX6_isShelf) = true := pT_mk pR_RX6 rfl rfl (Or.inl rfl)
theorem pk_X6_sheet : pT_chk (yX6_sheet, iX6_sheet) = true := pT_mk pR_RX6 rfl rfl (Or.inl rfl)
theorem pk_X6_put : pT_chk (yX6_put, iX6_put) = true := pT_mk pR_RX6 rfl rfl (Or.inl rfl)
theorem pk_X6_lacksSort : pT_chk (yX6_lacksSort, iX6_lacksSort) = true := pT_mk pR_RX6 rfl rfl (Or.inl rfl)
theorem pk_X6_item : pT_chk (yX6_item, iX6_item) = true := pT_mk pR_RX6 rfl rfl (Or.inl rfl)
theorem pk_X6_isHeld : pT_chk (yX6_isHeld, iX6_isHeld) = true := pT_mk pR_RX6 rfl rfl (Or.inl rfl)
theorem pk_X6_shelf : pT_chk (yX6_shelf, iX6_shelf) = true := pT_mk pR_RX6 rfl rfl (Or.inl rfl)
theorem pk_X6_kindOn : pT_chk (yX6_kindOn, iX6_kindOn) = true := pT_mk pR_RX6 rfl rfl (Or.inl rfl)
theorem pk_X6_isUnder : pT_chk (yX6_isUnder, iX6_isUnder) = true := pT_mk pR_RX6 rfl rfl (Or.inl rfl)
theorem pk_X6_taken : pT_chk (yX6_taken, iX6_taken) = true := pT_mk pR_RX6 rfl rfl (Or.inl rfl)
theorem pk_X6_ran : pT_chk (yX6_ran, iX6_ran) = true := pT_mk pR_RX6 rfl rfl (Or.inl rfl)
theorem pk_X6_plainThinks : pT_chk (yX6_plainThinks, iX6_plainThinks) = true := pT_mk pR_RX6 rfl rfl (Or.inl rfl)
theorem pk_X6_widowThinks : pT_chk (yX6_widowThinks, iX6_widowThinks) = true := pT_mk pR_RX6 rfl rfl (Or.inl rfl)
theorem pk_X6_thinksIt : pT_chk (yX6_thinksIt, iX6_thinksIt) = true := pT_mk pR_RX6 rfl rfl (Or.inl rfl)
theorem pk_X6_plainAsks : pT_chk (yX6_plainAsks, iX6_plainAsks) = true := pT_mk pR_RX6 rfl rfl (Or.inl rfl)
theorem pk_X6_asksIt : pT_chk (yX6_asksIt, iX6_asksIt) = true := pT_mk pR_RX6 rfl rfl (Or.inl rfl)
theorem pk_X6_plainParts : pT_chk (yX6_plainParts, iX6_plainParts) = true := pT_mk pR_RX6 rfl rfl (Or.inl rfl)
theorem pk_X6_partsIt : pT_chk (yX6_partsIt, iX6_partsIt) = true := pT_mk pR_RX6 rfl rfl (Or.inl rfl)
theorem pk_X6_plainWrites : pT_chk (yX6_plainWrites, iX6_plainWrites) = true := pT_mk pR_RX6 rfl rfl (Or.inl rfl)
theorem pk_X6_writesIt : pT_chk (yX6_writesIt, iX6_writesIt) = true := pT_mk pR_RX6 rfl rfl (Or.inl rfl)
theorem pk_X6_act : pT_chk (yX6_act, iX6_act) = true := pT_mk pR_RX6 rfl rfl (Or.inl rfl)
theorem pk_X6_trace : pT_chk (yX6_trace, iX6_trace) = true := pT_mk pR_RX6 rfl rfl (Or.inl rfl)
theorem pk_X6_manyWith : pT_chk (yX6_manyWith, iX6_manyWith) = true := pT_mk pR_RX6 rfl rfl (Or.inl rfl)
theorem pk_X6_many : pT_chk (yX6_many, iX6_many) = true := pT_mk pR_RX6 rfl rfl (Or.inl rfl)
theorem pk_X6_keep : pT_chk (yX6_keep, iX6_keep) = true := pT_mk pR_RX6 rfl rfl (Or.inl rfl)
theorem pk_X6_again : pT_chk (yX6_again, iX6_again) = true := pT_mk pR_RX6 rfl rfl (Or.inl rfl)
theorem pk_J6_bitCount_0f7a4 : pT_chk (yJ6_bitCount_0f7a4, iJ6_bitCount_0f7a4) = true := pT_mk pR_RJ6 rfl rfl (Or.inl rfl)
theorem pk_J0_length_8abf5 : pT_chk (yJ0_length_8abf5, iJ0_length_8abf5) = true := pT_mk pR_RJ0 rfl rfl (Or.inl rfl)
theorem pk_J0_charAt_5068e : pT_chk (yJ0_charAt_5068e, iJ0_charAt_5068e) = true := pT_mk pR_RJ0 rfl rfl (Or.inl rfl)
theorem pk_J0_coder_7d493 : pT_chk (yJ0_coder_7d493, iJ0_coder_7d493) = true := pT_mk pR_RJ0 rfl rfl (Or.inl rfl)
theorem pk_J0_isLatin1_aae02 : pT_chk (yJ0_isLatin1_aae02, iJ0_isLatin1_aae02) = true := pT_mk pR_RJ0 rfl rfl (Or.inl rfl)
theorem pk_J0_checkIndex_df160 : pT_chk (yJ0_checkIndex_df160, iJ0_checkIndex_df160) = true := pT_mk pR_RJ0 rfl rfl (Or.inl rfl)
theorem pk_J1_charAt_3b067 : pT_chk (yJ1_charAt_3b067, iJ1_charAt_3b067) = true := pT_mk pR_RJ1 rfl rfl (Or.inl rfl)
theorem pk_J3_checkIndex_8e157 : pT_chk (yJ3_checkIndex_8e157, iJ3_checkIndex_8e157) = true := pT_mk pR_RJ3 rfl rfl (Or.inl rfl)
theorem pk_L_law : pT_chk (yL_law, iL_law) = true := pT_mk pR_RL rfl rfl (Or.inl rfl)
theorem pT_all : ∀ k : Nat, pT_chk (pm_T0 k) = true := (pT_nd (pT_nd (pT_nd (pT_nd (pT_nd (pT_nd (pT_nd (pT_lf pk_X0_init pk_X0_init) (pT_nd (pT_lf pk_X0_forget pk_X0_init) (pT_lf pk_X0_play pk_X0_init))) (pT_nd (pT_lf pk_X0_perform pk_X0_init) (pT_nd (pT_lf pk_X0_enter pk_X0_init) (pT_lf pk_X0_thinks pk_X0_init)))) (pT_nd (pT_nd (pT_lf pk_X0_asks pk_X0_init) (pT_nd (pT_lf pk_X0_parts pk_X0_init) (pT_lf pk_X0_writes pk_X0_init))) (pT_nd (pT_nd (pT_lf pk_X1_init pk_X0_init) (pT_lf pk_X1_begin pk_X0_init)) (pT_nd (pT_lf pk_X1_become pk_X0_init) (pT_lf pk_X1_add pk_X0_init))))) (pT_nd (pT_nd (pT_nd (pT_lf pk_X1_has pk_X0_init) (pT_nd (pT_lf pk_X1_sumOf pk_X0_init) (pT_lf pk_X1_countOf pk_X0_init))) (pT_nd (pT_nd (pT_lf pk_X1_readySet pk_X0_init) (pT_lf pk_X1_thinking pk_X0_init)) (pT_nd (pT_lf pk_X1_needing pk_X0_init) (pT_lf pk_X1_saying pk_X0_init)))) (pT_nd (pT_nd (pT_lf pk_X1_isUsing pk_X0_init) (pT_nd (pT_lf pk_X1_passWeek pk_X0_init) (pT_lf pk_X1_passWeekByDraws pk_X0_init))) (pT_nd (pT_nd (pT_lf pk_X1_draw pk_X0_init) (pT_lf pk_X1_think pk_X0_init)) (pT_nd (pT_lf pk_X1_handOut pk_X0_init) (pT_lf pk_X1_keenest pk_X0_init)))))) (pT_nd (pT_nd (pT_nd (pT_nd (pT_lf pk_X1_speak pk_X0_init) (pT_nd (pT_lf pk_X2_init pk_X0_init) (pT_lf pk_X2_begin pk_X0_init))) (pT_nd (pT_nd (pT_lf pk_X3_init pk_X0_init) (pT_lf pk_X3_holdPerson pk_X0_init)) (pT_nd (pT_lf pk_X3_holdRow pk_X0_init) (pT_lf pk_X4_init pk_X0_init)))) (pT_nd (pT_nd (pT_lf pk_X4_take pk_X0_init) (pT_nd (pT_lf pk_X4_tell pk_X0_init) (pT_lf pk_X4_cut pk_X0_init))) (pT_nd (pT_nd (pT_lf pk_X4_cutName pk_X0_init) (pT_lf pk_X4_cutNumber pk_X0_init)) (pT_nd (pT_lf pk_X4_addToken pk_X0_init) (pT_lf pk_X4_wordAt pk_X0_init))))) (pT_nd (pT_nd (pT_nd (pT_lf pk_X4_isSpelt pk_X0_init) (pT_nd (pT_lf pk_X4_spelling pk_X0_init) (pT_lf pk_X4_isLetter pk_X0_init))) (pT_nd (pT_nd (pT_lf pk_X4_isDigit pk_X0_init) (pT_lf pk_X4_tellOne pk_X0_init)) (pT_nd (pT_lf pk_X4_tellPerson pk_X0_init) (pT_lf pk_X4_numberBehind pk_X0_init)))) (pT_nd (pT_nd (pT_lf pk_X4_numberUpTo pk_X0_init) (pT_nd (pT_lf pk_X4_passSemicolon pk_X0_init) (pT_lf pk_X4_fail pk_X0_init))) (pT_nd (pT_nd (pT_lf pk_X5_init pk_X0_init) (pT_lf pk_X5_feed pk_X0_init)) (pT_nd (pT_lf pk_X5_post pk_X0_init) (pT_lf pk_X5_set pk_X0_init))))))) (pT_nd (pT_nd (pT_nd (pT_nd (pT_nd (pT_lf pk_X5_lawOf pk_X0_init) (pT_nd (pT_lf pk_X5_person pk_X0_init) (pT_lf pk_X5_of pk_X0_init))) (pT_nd (pT_lf pk_X5_does pk_X0_init) (pT_nd (pT_lf pk_X5_mind pk_X0_init) (pT_lf pk_X5_thought pk_X0_init)))) (pT_nd (pT_nd (pT_lf pk_X5_own pk_X0_init) (pT_nd (pT_lf pk_X5_give pk_X0_init) (pT_lf pk_X5_weeks pk_X0_init))) (pT_nd (pT_nd (pT_lf pk_X5_seed pk_X0_init) (pT_lf pk_X5_week pk_X0_init)) (pT_nd (pT_lf pk_X5_poor pk_X0_init) (pT_lf pk_X5_state pk_X0_init))))) (pT_nd (pT_nd (pT_nd (pT_lf pk_X5_words pk_X0_init) (pT_nd (pT_lf pk_X5_gets pk_X0_init) (pT_lf pk_X5_idle pk_X0_init))) (pT_nd (pT_nd (pT_lf pk_X5_vanFor pk_X0_init) (pT_lf pk_X5_kindFor pk_X0_init)) (pT_nd (pT_lf pk_X5_thoughtFor pk_X0_init) (pT_lf pk_X5_needed pk_X0_init)))) (pT_nd (pT_nd (pT_lf pk_X5_fewest pk_X0_init) (pT_nd (pT_lf pk_X5_packed pk_X0_init) (pT_lf pk_X5_fits pk_X0_init))) (pT_nd (pT_nd (pT_lf pk_X5_odds pk_X0_init) (pT_lf pk_X5_hope pk_X0_init)) (pT_nd (pT_lf pk_X5_prove pk_X0_init) (pT_lf pk_X5_row pk_X0_init)))))) (pT_nd (pT_nd (pT_nd (pT_nd (pT_lf pk_X5_alterRow pk_X0_init) (pT_nd (pT_lf pk_X5_judge pk_X0_init) (pT_lf pk_X5_minds pk_X0_init))) (pT_nd (pT_nd (pT_lf pk_X5_sheet pk_X0_init) (pT_lf pk_X5_put pk_X0_init)) (pT_nd (pT_lf pk_X5_item pk_X0_init) (pT_lf pk_X5_shelf pk_X0_init)))) (pT_nd (pT_nd (pT_lf pk_X5_taken pk_X0_init) (pT_nd (pT_lf pk_X5_act pk_X0_init) (pT_lf pk_X5_trace pk_X0_init))) (pT_nd (pT_nd (pT_lf pk_X5_many pk_X0_init) (pT_lf pk_X5_keep pk_X0_init)) (pT_nd (pT_lf pk_X5_again pk_X0_init) (pT_lf pk_X5_isWithin pk_X0_init))))) (pT_nd (pT_nd (pT_nd (pT_lf pk_X5_isKind pk_X0_init) (pT_nd (pT_lf pk_X5_isPlace pk_X0_init) (pT_lf pk_X5_isUnder pk_X0_init))) (pT_nd (pT_nd (pT_lf pk_X5_isInRow pk_X0_init) (pT_lf pk_X5_trial pk_X0_init)) (pT_nd (pT_lf pk_X5_wordsBy pk_X0_init) (pT_lf pk_X5_isTold pk_X0_init)))) (pT_nd (pT_nd (pT_lf pk_X5_leastPacking pk_X0_init) (pT_nd (pT_lf pk_X5_choices pk_X0_init) (pT_lf pk_X5_partOf pk_X0_init))) (pT_nd (pT_nd (pT_lf pk_X5_commonDivisor pk_X0_init) (pT_lf pk_X5_narrowed pk_X0_init)) (pT_nd (pT_lf pk_X6_init pk_X0_init) (pT_lf pk_X6_begins pk_X0_init)))))))) (pT_nd (pT_nd (pT_nd (pT_nd (pT_nd (pT_nd (pT_lf pk_X6_in pk_X0_init) (pT_nd (pT_lf pk_X6_held pk_X0_init) (pT_lf pk_X6_moveAll pk_X0_init))) (pT_nd (pT_lf pk_X6_isOne pk_X0_init) (pT_nd (pT_lf pk_X6_its pk_X0_init) (pT_lf pk_X6_sets pk_X0_init)))) (pT_nd (pT_nd (pT_lf pk_X6_becomes pk_X0_init) (pT_nd (pT_lf pk_X6_ones pk_X0_init) (pT_lf pk_X6_feed pk_X0_init))) (pT_nd (pT_nd (pT_lf pk_X6_byteAt pk_X0_init) (pT_lf pk_X6_isLetter pk_X0_init)) (pT_nd (pT_lf pk_X6_isDigit pk_X0_init) (pT_lf pk_X6_advance pk_X0_init))))) (pT_nd (pT_nd (pT_nd (pT_lf pk_X6_isWord pk_X0_init) (pT_nd (pT_lf pk_X6_isMark pk_X0_init) (pT_lf pk_X6_kindHere pk_X0_init))) (pT_nd (pT_nd (pT_lf pk_X6_lawHere pk_X0_init) (pT_lf pk_X6_wantNumber pk_X0_init)) (pT_nd (pT_lf pk_X6_wantEnd pk_X0_init) (pT_lf pk_X6_mayWant pk_X0_init)))) (pT_nd (pT_nd (pT_lf pk_X6_wantOne pk_X0_init) (pT_nd (pT_lf pk_X6_wantClause pk_X0_init) (pT_lf pk_X6_post pk_X0_init))) (pT_nd (pT_nd (pT_lf pk_X6_mostOf pk_X0_init) (pT_lf pk_X6_set pk_X0_init)) (pT_nd (pT_lf pk_X6_lawOf pk_X0_init) (pT_lf pk_X6_isKind pk_X0_init)))))) (pT_nd (pT_nd (pT_nd (pT_nd (pT_lf pk_X6_person pk_X0_init) (pT_nd (pT_lf pk_X6_of pk_X0_init) (pT_lf pk_X6_thinksOf pk_X0_init))) (pT_nd (pT_nd (pT_lf pk_X6_needs pk_X0_init) (pT_lf pk_X6_says pk_X0_init)) (pT_nd (pT_lf pk_X6_isUsed pk_X0_init) (pT_lf pk_X6_does pk_X0_init)))) (pT_nd (pT_nd (pT_lf pk_X6_mind pk_X0_init) (pT_nd (pT_lf pk_X6_thought pk_X0_init) (pT_lf pk_X6_own pk_X0_init))) (pT_nd (pT_nd (pT_lf pk_X6_give pk_X0_init) (pT_lf pk_X6_isReady pk_X0_init)) (pT_nd (pT_lf pk_X6_readySet pk_X0_init) (pT_lf pk_X6_next pk_X0_init))))) (pT_nd (pT_nd (pT_nd (pT_lf pk_X6_pageGoes pk_X0_init) (pT_nd (pT_lf pk_X6_writes pk_X0_init) (pT_lf pk_X6_weekGoes pk_X0_init))) (pT_nd (pT_nd (pT_lf pk_X6_sumOf pk_X0_init) (pT_lf pk_X6_weeks pk_X0_init)) (pT_nd (pT_lf pk_X6_drawn pk_X0_init) (pT_lf pk_X6_seed pk_X0_init)))) (pT_nd (pT_nd (pT_lf pk_X6_weekByDraws pk_X0_init) (pT_nd (pT_lf pk_X6_week pk_X0_init) (pT_lf pk_X6_poor pk_X0_init))) (pT_nd (pT_nd (pT_lf pk_X6_state pk_X0_init) (pT_lf pk_X6_wordsBehind pk_X0_init)) (pT_nd (pT_lf pk_X6_words pk_X0_init) (pT_lf pk_X6_gets pk_X0_init))))))) (pT_nd (pT_nd (pT_nd (pT_nd (pT_nd (pT_lf pk_X6_idle pk_X0_init) (pT_nd (pT_lf pk_X6_vanFor pk_X0_init) (pT_lf pk_X6_kindFor pk_X0_init))) (pT_nd (pT_nd (pT_lf pk_X6_thoughtFor pk_X0_init) (pT_lf pk_X6_needed pk_X0_init)) (pT_nd (pT_lf pk_X6_fewest pk_X0_init) (pT_lf pk_X6_thoughtOf pk_X0_init)))) (pT_nd (pT_nd (pT_lf pk_X6_packed pk_X0_init) (pT_nd (pT_lf pk_X6_isSo pk_X0_init) (pT_lf pk_X6_fits pk_X0_init))) (pT_nd (pT_nd (pT_lf pk_X6_lowest pk_X0_init) (pT_lf pk_X6_powerOf pk_X0_init)) (pT_nd (pT_lf pk_X6_odds pk_X0_init) (pT_lf pk_X6_hope pk_X0_init))))) (pT_nd (pT_nd (pT_nd (pT_lf pk_X6_findRows pk_X0_init) (pT_nd (pT_lf pk_X6_prove pk_X0_init) (pT_lf pk_X6_isRow pk_X0_init))) (pT_nd (pT_nd (pT_lf pk_X6_row pk_X0_init) (pT_lf pk_X6_alterRow pk_X0_init)) (pT_nd (pT_lf pk_X6_judge pk_X0_init) (pT_lf pk_X6_minds pk_X0_init)))) (pT_nd (pT_nd (pT_lf pk_X6_isShelf pk_X0_init) (pT_nd (pT_lf pk_X6_sheet pk_X0_init) (pT_lf pk_X6_put pk_X0_init))) (pT_nd (pT_nd (pT_lf pk_X6_lacksSort pk_X0_init) (pT_lf pk_X6_item pk_X0_init)) (pT_nd (pT_lf pk_X6_isHeld pk_X0_init) (pT_lf pk_X6_shelf pk_X0_init)))))) (pT_nd (pT_nd (pT_nd (pT_nd (pT_lf pk_X6_kindOn pk_X0_init) (pT_nd (pT_lf pk_X6_isUnder pk_X0_init) (pT_lf pk_X6_taken pk_X0_init))) (pT_nd (pT_nd (pT_lf pk_X6_ran pk_X0_init) (pT_lf pk_X6_plainThinks pk_X0_init)) (pT_nd (pT_lf pk_X6_widowThinks pk_X0_init) (pT_lf pk_X6_thinksIt pk_X0_init)))) (pT_nd (pT_nd (pT_lf pk_X6_plainAsks pk_X0_init) (pT_nd (pT_lf pk_X6_asksIt pk_X0_init) (pT_lf pk_X6_plainParts pk_X0_init))) (pT_nd (pT_nd (pT_lf pk_X6_partsIt pk_X0_init) (pT_lf pk_X6_plainWrites pk_X0_init)) (pT_nd (pT_lf pk_X6_writesIt pk_X0_init) (pT_lf pk_X6_act pk_X0_init))))) (pT_nd (pT_nd (pT_nd (pT_lf pk_X6_trace pk_X0_init) (pT_nd (pT_lf pk_X6_manyWith pk_X0_init) (pT_lf pk_X6_many pk_X0_init))) (pT_nd (pT_nd (pT_lf pk_X6_keep pk_X0_init) (pT_lf pk_X6_again pk_X0_init)) (pT_nd (pT_lf pk_J6_bitCount_0f7a4 pk_X0_init) (pT_lf pk_J0_length_8abf5 pk_X0_init)))) (pT_nd (pT_nd (pT_lf pk_J0_charAt_5068e pk_X0_init) (pT_nd (pT_lf pk_J0_coder_7d493 pk_X0_init) (pT_lf pk_J0_isLatin1_aae02 pk_X0_init))) (pT_nd (pT_nd (pT_lf pk_J0_checkIndex_df160 pk_X0_init) (pT_lf pk_J1_charAt_3b067 pk_X0_init)) (pT_nd (pT_lf pk_J3_checkIndex_8e157 pk_X0_init) (pT_lf pk_L_law pk_X0_init)))))))))
theorem pT_of {t : MethodName × pm_I} (h : pT_chk t = true) : plainName t.1.cls = true ∧ t.1.cls = t.2.1 ∧ (t.2.2.2.2.2.1 = true → t.1.name = "<init>") := by
  simp only [pT_chk, Bool.and_eq_true, decide_eq_true_eq, Bool.or_eq_true, Bool.not_eq_true'] at h
  exact ⟨h.1, h.2.1, fun z => h.2.2.resolve_left (by rw [z]; exact Bool.noConfusion)⟩
