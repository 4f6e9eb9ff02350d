/-! the methods, their targets, the pool: by program, out of the tables (wip/whole/gen/pool.py) -/
def m_X0_init : xMR := (none, (yX0_init, (cX0_init, (1, none))))
def m_X0_gather : xMR := (none, (yX0_gather, (cX0_gather, (3, none))))
def m_X0_kindsOf : xMR := (none, (yX0_kindsOf, (cX0_kindsOf, (4, (some .int)))))
def m_X0_couldBe : xMR := (none, (yX0_couldBe, (cX0_couldBe, (5, (some .boolean)))))
def m_X0_someTenth : xMR := (none, (yX0_someTenth, (cX0_someTenth, (5, (some .boolean)))))
def m_X0_allow : xMR := (none, (yX0_allow, (cX0_allow, (5, (some .boolean)))))
def m_X0_isSeen : xMR := (none, (yX0_isSeen, (cX0_isSeen, (5, (some .boolean)))))
def m_X0_someKind : xMR := (none, (yX0_someKind, (cX0_someKind, (6, (some .boolean)))))
def m_X0_agrees : xMR := (none, (yX0_agrees, (cX0_agrees, (6, (some .boolean)))))
def m_X1_init : xMR := (none, (yX1_init, (cX1_init, (2, none))))
def m_X1_begin : xMR := (none, (yX1_begin, (cX1_begin, (1, none))))
def m_X1_copy : xMR := (none, (yX1_copy, (cX1_copy, (3, none))))
def m_X1_copyJudge : xMR := (none, (yX1_copyJudge, (cX1_copyJudge, (2, none))))
def m_X1_copySuit : xMR := (none, (yX1_copySuit, (cX1_copySuit, (2, none))))
def m_X1_copySight : xMR := (none, (yX1_copySight, (cX1_copySight, (2, none))))
def m_X1_judgeAt : xMR := (none, (yX1_judgeAt, (cX1_judgeAt, (2, (some (.object "JudgeFirst$Judge"))))))
def m_X1_suitAt : xMR := (none, (yX1_suitAt, (cX1_suitAt, (2, (some (.object "JudgeFirst$Suit"))))))
def m_X1_sightAt : xMR := (none, (yX1_sightAt, (cX1_sightAt, (2, (some (.object "JudgeFirst$Sight"))))))
def m_X1_addJudge : xMR := (none, (yX1_addJudge, (cX1_addJudge, (1, (some .boolean)))))
def m_X1_addSuit : xMR := (none, (yX1_addSuit, (cX1_addSuit, (1, (some .boolean)))))
def m_X1_addSight : xMR := (none, (yX1_addSight, (cX1_addSight, (5, (some .boolean)))))
def m_X1_canHear : xMR := (none, (yX1_canHear, (cX1_canHear, (4, (some .boolean)))))
def m_X1_anyBears : xMR := (none, (yX1_anyBears, (cX1_anyBears, (4, (some .boolean)))))
def m_X1_sentence : xMR := (none, (yX1_sentence, (cX1_sentence, (7, (some .boolean)))))
def m_X1_sentenceToLeast : xMR := (none, (yX1_sentenceToLeast, (cX1_sentenceToLeast, (4, (some .boolean)))))
def m_X1_undo : xMR := (none, (yX1_undo, (cX1_undo, (3, none))))
def m_X1_crimeWithout : xMR := (none, (yX1_crimeWithout, (cX1_crimeWithout, (5, (some .int)))))
def m_X1_nextDay : xMR := (none, (yX1_nextDay, (cX1_nextDay, (4, none))))
def m_X1_heardBits : xMR := (none, (yX1_heardBits, (cX1_heardBits, (4, (some .int)))))
def m_X1_bitsBy : xMR := (none, (yX1_bitsBy, (cX1_bitsBy, (5, (some .int)))))
def m_X1_awayBits : xMR := (none, (yX1_awayBits, (cX1_awayBits, (4, (some .int)))))
def m_X1_isClear : xMR := (none, (yX1_isClear, (cX1_isClear, (1, (some .boolean)))))
def m_X1_allSentences : xMR := (none, (yX1_allSentences, (cX1_allSentences, (4, (some .int)))))
def m_X1_allPurses : xMR := (none, (yX1_allPurses, (cX1_allPurses, (4, (some .int)))))
def m_X1_allHealth : xMR := (none, (yX1_allHealth, (cX1_allHealth, (4, (some .int)))))
def m_X1_allScars : xMR := (none, (yX1_allScars, (cX1_allScars, (4, (some .int)))))
def m_X2_init : xMR := (none, (yX2_init, (cX2_init, (1, none))))
def m_X2_seatAll : xMR := (none, (yX2_seatAll, (cX2_seatAll, (2, none))))
def m_X2_seatWithout : xMR := (none, (yX2_seatWithout, (cX2_seatWithout, (4, none))))
def m_X2_seatBy : xMR := (none, (yX2_seatBy, (cX2_seatBy, (6, (some .boolean)))))
def m_X2_seat : xMR := (none, (yX2_seat, (cX2_seat, (2, none))))
def m_X2_searchOrder : xMR := (none, (yX2_searchOrder, (cX2_searchOrder, (8, none))))
def m_X2_play : xMR := (none, (yX2_play, (cX2_play, (6, none))))
def m_X2_hearFirst : xMR := (none, (yX2_hearFirst, (cX2_hearFirst, (4, none))))
def m_X3_init : xMR := (none, (yX3_init, (cX3_init, (1, none))))
def m_X4_init : xMR := (none, (yX4_init, (cX4_init, (1, none))))
def m_X4_begin : xMR := (none, (yX4_begin, (cX4_begin, (4, none))))
def m_X4_copy : xMR := (none, (yX4_copy, (cX4_copy, (2, none))))
def m_X4_bears : xMR := (none, (yX4_bears, (cX4_bears, (3, (some .boolean)))))
def m_X4_serve : xMR := (none, (yX4_serve, (cX4_serve, (4, none))))
def m_X4_regain : xMR := (none, (yX4_regain, (cX4_regain, (4, none))))
def m_X5_init : xMR := (none, (yX5_init, (cX5_init, (1, none))))
def m_X5_search : xMR := (none, (yX5_search, (cX5_search, (2, none))))
def m_X5_suitOf : xMR := (none, (yX5_suitOf, (cX5_suitOf, (2, (some .int)))))
def m_X5_choose : xMR := (none, (yX5_choose, (cX5_choose, (8, none))))
def m_X5_weigh : xMR := (none, (yX5_weigh, (cX5_weigh, (4, none))))
def m_X6_init : xMR := (none, (yX6_init, (cX6_init, (1, none))))
def m_X6_begin : xMR := (none, (yX6_begin, (cX6_begin, (4, none))))
def m_X6_put : xMR := (none, (yX6_put, (cX6_put, (3, (some .int)))))
def m_X6_cell : xMR := (none, (yX6_cell, (cX6_cell, (2, (some .int)))))
def m_X6_faultTakenAs : xMR := (none, (yX6_faultTakenAs, (cX6_faultTakenAs, (2, (some .int)))))
def m_X7_init : xMR := (none, (yX7_init, (cX7_init, (1, none))))
def m_X7_begin : xMR := (none, (yX7_begin, (cX7_begin, (4, none))))
def m_X8_init : xMR := (none, (yX8_init, (cX8_init, (1, none))))
def m_X8_begin : xMR := (none, (yX8_begin, (cX8_begin, (5, none))))
def m_X8_close : xMR := (none, (yX8_close, (cX8_close, (4, none))))
def m_X8_copy : xMR := (none, (yX8_copy, (cX8_copy, (2, none))))
def m_X8_isHeard : xMR := (none, (yX8_isHeard, (cX8_isHeard, (1, (some .boolean)))))
def m_X8_admits : xMR := (none, (yX8_admits, (cX8_admits, (3, (some .boolean)))))
def m_X8_replace : xMR := (none, (yX8_replace, (cX8_replace, (4, (some .int)))))
def m_X9_init : xMR := (none, (yX9_init, (cX9_init, (1, none))))
def m_X9_append : xMR := (none, (yX9_append, (cX9_append, (2, (some .boolean)))))
def m_X9_parse : xMR := (none, (yX9_parse, (cX9_parse, (3, (some .int)))))
def m_X9_line : xMR := (none, (yX9_line, (cX9_line, (3, none))))
def m_X9_lineOfJudge : xMR := (none, (yX9_lineOfJudge, (cX9_lineOfJudge, (6, none))))
def m_X9_lineOfSuit : xMR := (none, (yX9_lineOfSuit, (cX9_lineOfSuit, (7, none))))
def m_X9_lineOfCrime : xMR := (none, (yX9_lineOfCrime, (cX9_lineOfCrime, (2, none))))
def m_X9_number : xMR := (none, (yX9_number, (cX9_number, (3, (some .int)))))
def m_X9_fail : xMR := (none, (yX9_fail, (cX9_fail, (2, none))))
def m_X9_take : xMR := (none, (yX9_take, (cX9_take, (2, none))))
def m_X9_valueThere : xMR := (none, (yX9_valueThere, (cX9_valueThere, (3, (some .int)))))
def m_X9_behind : xMR := (none, (yX9_behind, (cX9_behind, (5, (some .int)))))
def m_X9_byteAt : xMR := (none, (yX9_byteAt, (cX9_byteAt, (2, (some .int)))))
def m_X9_wordThere : xMR := (none, (yX9_wordThere, (cX9_wordThere, (2, (some .int)))))
def m_X9_spells : xMR := (none, (yX9_spells, (cX9_spells, (3, (some .boolean)))))
def m_X9_wordOf : xMR := (none, (yX9_wordOf, (cX9_wordOf, (1, (some (.object "java/lang/String"))))))
def m_X10_init : xMR := (none, (yX10_init, (cX10_init, (2, none))))
def m_X10_feed : xMR := (none, (yX10_feed, (cX10_feed, (2, (some .int)))))
def m_X10_end : xMR := (none, (yX10_end, (cX10_end, (3, (some .int)))))
def m_X10_text : xMR := (none, (yX10_text, (cX10_text, (2, (some .int)))))
def m_X10_fault : xMR := (none, (yX10_fault, (cX10_fault, (1, (some .int)))))
def m_X10_rule : xMR := (none, (yX10_rule, (cX10_rule, (2, (some .int)))))
def m_X10_judge : xMR := (none, (yX10_judge, (cX10_judge, (4, (some .int)))))
def m_X10_suit : xMR := (none, (yX10_suit, (cX10_suit, (4, (some .int)))))
def m_X10_tenth : xMR := (none, (yX10_tenth, (cX10_tenth, (4, (some .int)))))
def m_X10_alter : xMR := (none, (yX10_alter, (cX10_alter, (6, (some .int)))))
def m_X10_amend : xMR := (none, (yX10_amend, (cX10_amend, (5, (some .int)))))
def m_X10_crime : xMR := (none, (yX10_crime, (cX10_crime, (3, (some .int)))))
def m_X10_can : xMR := (none, (yX10_can, (cX10_can, (6, (some .int)))))
def m_X10_give : xMR := (none, (yX10_give, (cX10_give, (4, (some .int)))))
def m_X10_appeal : xMR := (none, (yX10_appeal, (cX10_appeal, (3, (some .int)))))
def m_X10_days : xMR := (none, (yX10_days, (cX10_days, (3, (some .int)))))
def m_X10_docket : xMR := (none, (yX10_docket, (cX10_docket, (3, (some .int)))))
def m_X10_hears : xMR := (none, (yX10_hears, (cX10_hears, (5, (some .int)))))
def m_X10_best : xMR := (none, (yX10_best, (cX10_best, (3, (some .int)))))
def m_X10_deter : xMR := (none, (yX10_deter, (cX10_deter, (5, (some .int)))))
def m_X10_order : xMR := (none, (yX10_order, (cX10_order, (5, (some .int)))))
def m_X10_spare : xMR := (none, (yX10_spare, (cX10_spare, (4, (some .int)))))
def m_X10_hopeless : xMR := (none, (yX10_hopeless, (cX10_hopeless, (4, (some .int)))))
def m_X10_mean : xMR := (none, (yX10_mean, (cX10_mean, (7, (some .long)))))
def m_X10_luck : xMR := (none, (yX10_luck, (cX10_luck, (8, (some .long)))))
def m_X10_see : xMR := (none, (yX10_see, (cX10_see, (4, (some .int)))))
def m_X10_forget : xMR := (none, (yX10_forget, (cX10_forget, (3, (some .int)))))
def m_X10_kinds : xMR := (none, (yX10_kinds, (cX10_kinds, (2, (some .int)))))
def m_X10_terms : xMR := (none, (yX10_terms, (cX10_terms, (8, (some .int)))))
def m_X10_ask : xMR := (none, (yX10_ask, (cX10_ask, (8, (some .int)))))
def m_X10_drift : xMR := (none, (yX10_drift, (cX10_drift, (7, (some .int)))))
def m_X10_keep : xMR := (none, (yX10_keep, (cX10_keep, (4, (some .int)))))
def m_X10_back : xMR := (none, (yX10_back, (cX10_back, (3, (some .int)))))
def m_X10_sheet : xMR := (none, (yX10_sheet, (cX10_sheet, (5, (some .int)))))
def m_X10_lay : xMR := (none, (yX10_lay, (cX10_lay, (6, (some .int)))))
def m_X10_read : xMR := (none, (yX10_read, (cX10_read, (12, (some .int)))))
def m_X10_torn : xMR := (none, (yX10_torn, (cX10_torn, (1, (some .int)))))
def m_X10_count : xMR := (none, (yX10_count, (cX10_count, (2, (some .int)))))
def m_X10_within : xMR := (none, (yX10_within, (cX10_within, (3, (some .boolean)))))
def m_X10_tenthBy : xMR := (none, (yX10_tenthBy, (cX10_tenthBy, (4, (some .int)))))
def m_X10_lessCrime : xMR := (none, (yX10_lessCrime, (cX10_lessCrime, (2, (some .int)))))
def m_X10_moreCrime : xMR := (none, (yX10_moreCrime, (cX10_moreCrime, (2, (some .int)))))
def m_X10_sentenceAsAsked : xMR := (none, (yX10_sentenceAsAsked, (cX10_sentenceAsAsked, (5, (some .int)))))
def m_X10_seatIn : xMR := (none, (yX10_seatIn, (cX10_seatIn, (3, (some .int)))))
def m_X10_oddsOf : xMR := (none, (yX10_oddsOf, (cX10_oddsOf, (6, (some .long)))))
def m_X10_oddsInAll : xMR := (none, (yX10_oddsInAll, (cX10_oddsInAll, (4, (some .long)))))
def m_X10_lowest : xMR := (none, (yX10_lowest, (cX10_lowest, (12, (some .long)))))
def m_X10_mostLeft : xMR := (none, (yX10_mostLeft, (cX10_mostLeft, (6, (some .int)))))
def m_X10_imageAt : xMR := (none, (yX10_imageAt, (cX10_imageAt, (2, (some (.object "JudgeFirst$Image"))))))
def m_X10_sheetAt : xMR := (none, (yX10_sheetAt, (cX10_sheetAt, (2, (some (.object "JudgeFirst$Sheet"))))))
def m_X10_dropImages : xMR := (none, (yX10_dropImages, (cX10_dropImages, (3, none))))
def m_X10_imagesThere : xMR := (none, (yX10_imagesThere, (cX10_imagesThere, (4, (some .int)))))
def m_X10_cellsOfFirst : xMR := (none, (yX10_cellsOfFirst, (cX10_cellsOfFirst, (2, (some .int)))))
def m_X11_init : xMR := (none, (yX11_init, (cX11_init, (2, none))))
def m_X11_in : xMR := (none, (yX11_in, (cX11_in, (6, (some .boolean)))))
def m_X11_flag : xMR := (none, (yX11_flag, (cX11_flag, (1, (some .int)))))
def m_X11_firstDraft : xMR := (none, (yX11_firstDraft, (cX11_firstDraft, (2, none))))
def m_X11_keepDraft : xMR := (none, (yX11_keepDraft, (cX11_keepDraft, (2, none))))
def m_X11_feed : xMR := (none, (yX11_feed, (cX11_feed, (2, (some .int)))))
def m_X11_end : xMR := (none, (yX11_end, (cX11_end, (3, (some .int)))))
def m_X11_needs : xMR := (none, (yX11_needs, (cX11_needs, (3, none))))
def m_X11_byteAt : xMR := (none, (yX11_byteAt, (cX11_byteAt, (2, (some .int)))))
def m_X11_is : xMR := (none, (yX11_is, (cX11_is, (5, (some .boolean)))))
def m_X11_ends : xMR := (none, (yX11_ends, (cX11_ends, (4, (some .boolean)))))
def m_X11_judgeNow : xMR := (none, (yX11_judgeNow, (cX11_judgeNow, (1, (some .int)))))
def m_X11_lineNow : xMR := (none, (yX11_lineNow, (cX11_lineNow, (1, (some .int)))))
def m_X11_takes : xMR := (none, (yX11_takes, (cX11_takes, (2, none))))
def m_X11_readNumber : xMR := (none, (yX11_readNumber, (cX11_readNumber, (4, (some .int)))))
def m_X11_readCase : xMR := (none, (yX11_readCase, (cX11_readCase, (3, none))))
def m_X11_readLineOf : xMR := (none, (yX11_readLineOf, (cX11_readLineOf, (2, none))))
def m_X11_readLine : xMR := (none, (yX11_readLine, (cX11_readLine, (2, none))))
def m_X11_text : xMR := (none, (yX11_text, (cX11_text, (2, (some .int)))))
def m_X11_fault : xMR := (none, (yX11_fault, (cX11_fault, (1, (some .int)))))
def m_X11_isJudge : xMR := (none, (yX11_isJudge, (cX11_isJudge, (2, (some .boolean)))))
def m_X11_isCase : xMR := (none, (yX11_isCase, (cX11_isCase, (2, (some .boolean)))))
def m_X11_isPart : xMR := (none, (yX11_isPart, (cX11_isPart, (1, (some .boolean)))))
def m_X11_starts : xMR := (none, (yX11_starts, (cX11_starts, (2, none))))
def m_X11_settles : xMR := (none, (yX11_settles, (cX11_settles, (2, none))))
def m_X11_of : xMR := (none, (yX11_of, (cX11_of, (3, (some .int)))))
def m_X11_becomesOf : xMR := (none, (yX11_becomesOf, (cX11_becomesOf, (4, none))))
def m_X11_ofCase : xMR := (none, (yX11_ofCase, (cX11_ofCase, (3, (some .int)))))
def m_X11_becomesCase : xMR := (none, (yX11_becomesCase, (cX11_becomesCase, (4, none))))
def m_X11_lesser : xMR := (none, (yX11_lesser, (cX11_lesser, (2, (some .int)))))
def m_X11_tenthBy : xMR := (none, (yX11_tenthBy, (cX11_tenthBy, (4, (some .int)))))
def m_X11_canBear : xMR := (none, (yX11_canBear, (cX11_canBear, (6, (some .boolean)))))
def m_X11_canHear : xMR := (none, (yX11_canHear, (cX11_canHear, (4, (some .boolean)))))
def m_X11_sentences : xMR := (none, (yX11_sentences, (cX11_sentences, (5, none))))
def m_X11_appeals : xMR := (none, (yX11_appeals, (cX11_appeals, (5, none))))
def m_X11_dayGoes : xMR := (none, (yX11_dayGoes, (cX11_dayGoes, (3, none))))
def m_X11_heard : xMR := (none, (yX11_heard, (cX11_heard, (3, (some .int)))))
def m_X11_away : xMR := (none, (yX11_away, (cX11_away, (3, (some .int)))))
def m_X11_firstFor : xMR := (none, (yX11_firstFor, (cX11_firstFor, (3, (some .int)))))
def m_X11_docketGoes : xMR := (none, (yX11_docketGoes, (cX11_docketGoes, (4, none))))
def m_X11_bitsOf : xMR := (none, (yX11_bitsOf, (cX11_bitsOf, (3, (some .int)))))
def m_X11_docketHears : xMR := (none, (yX11_docketHears, (cX11_docketHears, (4, (some .int)))))
def m_X11_allOf : xMR := (none, (yX11_allOf, (cX11_allOf, (4, (some .int)))))
def m_X11_rule : xMR := (none, (yX11_rule, (cX11_rule, (4, (some .int)))))
def m_X11_judge : xMR := (none, (yX11_judge, (cX11_judge, (5, (some .int)))))
def m_X11_suit : xMR := (none, (yX11_suit, (cX11_suit, (3, (some .int)))))
def m_X11_tenth : xMR := (none, (yX11_tenth, (cX11_tenth, (3, (some .int)))))
def m_X11_becomes : xMR := (none, (yX11_becomes, (cX11_becomes, (4, (some .int)))))
def m_X11_alter : xMR := (none, (yX11_alter, (cX11_alter, (5, (some .int)))))
def m_X11_isHeard : xMR := (none, (yX11_isHeard, (cX11_isHeard, (2, (some .boolean)))))
def m_X11_amend : xMR := (none, (yX11_amend, (cX11_amend, (6, (some .int)))))
def m_X11_crime : xMR := (none, (yX11_crime, (cX11_crime, (2, (some .int)))))
def m_X11_isTerm : xMR := (none, (yX11_isTerm, (cX11_isTerm, (3, (some .boolean)))))
def m_X11_can : xMR := (none, (yX11_can, (cX11_can, (5, (some .int)))))
def m_X11_give : xMR := (none, (yX11_give, (cX11_give, (4, (some .int)))))
def m_X11_appeal : xMR := (none, (yX11_appeal, (cX11_appeal, (2, (some .int)))))
def m_X11_days : xMR := (none, (yX11_days, (cX11_days, (3, (some .int)))))
def m_X11_docket : xMR := (none, (yX11_docket, (cX11_docket, (7, (some .int)))))
def m_X11_hears : xMR := (none, (yX11_hears, (cX11_hears, (3, (some .int)))))
def m_X11_powerOf : xMR := (none, (yX11_powerOf, (cX11_powerOf, (5, (some .int)))))
def m_X11_caseIn : xMR := (none, (yX11_caseIn, (cX11_caseIn, (3, (some .int)))))
def m_X11_hearsBy : xMR := (none, (yX11_hearsBy, (cX11_hearsBy, (5, (some .int)))))
def m_X11_best : xMR := (none, (yX11_best, (cX11_best, (8, (some .int)))))
def m_X11_deter : xMR := (none, (yX11_deter, (cX11_deter, (4, (some .int)))))
def m_X11_isOrder : xMR := (none, (yX11_isOrder, (cX11_isOrder, (5, (some .boolean)))))
def m_X11_order : xMR := (none, (yX11_order, (cX11_order, (7, (some .int)))))
def m_X11_spare : xMR := (none, (yX11_spare, (cX11_spare, (5, (some .int)))))
def m_X11_hopeless : xMR := (none, (yX11_hopeless, (cX11_hopeless, (5, (some .int)))))
def m_X11_common : xMR := (none, (yX11_common, (cX11_common, (10, (some .long)))))
def m_X11_told : xMR := (none, (yX11_told, (cX11_told, (7, (some .long)))))
def m_X11_findOdds : xMR := (none, (yX11_findOdds, (cX11_findOdds, (9, none))))
def m_X11_mean : xMR := (none, (yX11_mean, (cX11_mean, (3, (some .long)))))
def m_X11_luck : xMR := (none, (yX11_luck, (cX11_luck, (4, (some .long)))))
def m_X11_see : xMR := (none, (yX11_see, (cX11_see, (5, (some .int)))))
def m_X11_forget : xMR := (none, (yX11_forget, (cX11_forget, (2, (some .int)))))
def m_X11_couldBe : xMR := (none, (yX11_couldBe, (cX11_couldBe, (6, (some .boolean)))))
def m_X11_kindsOf : xMR := (none, (yX11_kindsOf, (cX11_kindsOf, (7, (some .int)))))
def m_X11_kinds : xMR := (none, (yX11_kinds, (cX11_kinds, (2, (some .int)))))
def m_X11_isSo : xMR := (none, (yX11_isSo, (cX11_isSo, (8, (some .boolean)))))
def m_X11_isTermSo : xMR := (none, (yX11_isTermSo, (cX11_isTermSo, (8, (some .boolean)))))
def m_X11_isSeenIn : xMR := (none, (yX11_isSeenIn, (cX11_isSeenIn, (5, (some .boolean)))))
def m_X11_terms : xMR := (none, (yX11_terms, (cX11_terms, (7, (some .int)))))
def m_X11_ask : xMR := (none, (yX11_ask, (cX11_ask, (11, (some .int)))))
def m_X11_drift : xMR := (none, (yX11_drift, (cX11_drift, (9, (some .int)))))
def m_X11_copies : xMR := (none, (yX11_copies, (cX11_copies, (4, none))))
def m_X11_keep : xMR := (none, (yX11_keep, (cX11_keep, (3, (some .int)))))
def m_X11_back : xMR := (none, (yX11_back, (cX11_back, (2, (some .int)))))
def m_X11_isSheet : xMR := (none, (yX11_isSheet, (cX11_isSheet, (2, (some .boolean)))))
def m_X11_sheet : xMR := (none, (yX11_sheet, (cX11_sheet, (5, (some .int)))))
def m_X11_lay : xMR := (none, (yX11_lay, (cX11_lay, (4, (some .int)))))
def m_X11_read : xMR := (none, (yX11_read, (cX11_read, (11, (some .int)))))
def m_X11_torn : xMR := (none, (yX11_torn, (cX11_torn, (1, (some .int)))))
def m_X11_count : xMR := (none, (yX11_count, (cX11_count, (2, (some .int)))))
def m_J6_bitCount_0f7a4 : xMR := (none, (yJ6_bitCount_0f7a4, (cJ6_bitCount_0f7a4, (1, (some .int)))))
def m_J0_length_8abf5 : xMR := (none, (yJ0_length_8abf5, (cJ0_length_8abf5, (1, (some .int)))))
def m_J0_charAt_5068e : xMR := (none, (yJ0_charAt_5068e, (cJ0_charAt_5068e, (2, (some .char)))))
def m_J0_coder_7d493 : xMR := (none, (yJ0_coder_7d493, (cJ0_coder_7d493, (1, (some .byte)))))
def m_J0_isLatin1_aae02 : xMR := (none, (yJ0_isLatin1_aae02, (cJ0_isLatin1_aae02, (1, (some .boolean)))))
def m_J0_checkIndex_df160 : xMR := (none, (yJ0_checkIndex_df160, (cJ0_checkIndex_df160, (2, none))))
def m_J1_charAt_3b067 : xMR := (none, (yJ1_charAt_3b067, (cJ1_charAt_3b067, (2, (some .char)))))
def m_J3_checkIndex_8e157 : xMR := (none, (yJ3_checkIndex_8e157, (cJ3_checkIndex_8e157, (3, (some .int)))))
theorem k_X0_init : xMOK m_X0_init := ⟨rfl, by decide, by decide +kernel⟩
theorem tg_X0_init : xTg m_X0_init 0 := ⟨by decide +kernel, xTbl_in (List.mem_of_getElem? (i := 353) (by decide +kernel)) rfl, xTbl_in (List.mem_of_getElem? (i := 76) (by decide +kernel)) rfl⟩
theorem in_X0_init : xIns m_X0_init := xTbl_in (List.mem_of_getElem? (i := 352) (by decide +kernel)) rfl
theorem k_X0_gather : xMOK m_X0_gather := ⟨rfl, by decide, by decide +kernel⟩
theorem tg_X0_gather : xTg m_X0_gather 1 := ⟨by decide +kernel, xTbl_in (List.mem_of_getElem? (i := 914) (by decide +kernel)) rfl, xTbl_in (List.mem_of_getElem? (i := 76) (by decide +kernel)) rfl⟩
theorem in_X0_gather : xIns m_X0_gather := xTbl_in (List.mem_of_getElem? (i := 912) (by decide +kernel)) rfl
theorem se_X0_gather : xSel m_X0_gather := xTbl_in (List.mem_of_getElem? (i := 913) (by decide +kernel)) rfl
theorem k_X0_kindsOf : xMOK m_X0_kindsOf := ⟨rfl, by decide, by decide +kernel⟩
theorem tg_X0_kindsOf : xTg m_X0_kindsOf 2 := ⟨by decide +kernel, xTbl_in (List.mem_of_getElem? (i := 897) (by decide +kernel)) rfl, xTbl_in (List.mem_of_getElem? (i := 76) (by decide +kernel)) rfl⟩
theorem sa_X0_kindsOf : xSta m_X0_kindsOf := xTbl_in (List.mem_of_getElem? (i := 896) (by decide +kernel)) rfl
theorem k_X0_couldBe : xMOK m_X0_couldBe := ⟨rfl, by decide, by decide +kernel⟩
theorem tg_X0_couldBe : xTg m_X0_couldBe 3 := ⟨by decide +kernel, xTbl_in (List.mem_of_getElem? (i := 900) (by decide +kernel)) rfl, xTbl_in (List.mem_of_getElem? (i := 76) (by decide +kernel)) rfl⟩
theorem sa_X0_couldBe : xSta m_X0_couldBe := xTbl_in (List.mem_of_getElem? (i := 899) (by decide +kernel)) rfl
theorem k_X0_someTenth : xMOK m_X0_someTenth := ⟨rfl, by decide, by decide +kernel⟩
theorem tg_X0_someTenth : xTg m_X0_someTenth 3 := ⟨by decide +kernel, xTbl_in (List.mem_of_getElem? (i := 904) (by decide +kernel)) rfl, xTbl_in (List.mem_of_getElem? (i := 76) (by decide +kernel)) rfl⟩
theorem sa_X0_someTenth : xSta m_X0_someTenth := xTbl_in (List.mem_of_getElem? (i := 903) (by decide +kernel)) rfl
theorem k_X0_allow : xMOK m_X0_allow := ⟨rfl, by decide, by decide +kernel⟩
theorem tg_X0_allow : xTg m_X0_allow 3 := ⟨by decide +kernel, xTbl_in (List.mem_of_getElem? (i := 919) (by decide +kernel)) rfl, xTbl_in (List.mem_of_getElem? (i := 76) (by decide +kernel)) rfl⟩
theorem in_X0_allow : xIns m_X0_allow := xTbl_in (List.mem_of_getElem? (i := 917) (by decide +kernel)) rfl
theorem se_X0_allow : xSel m_X0_allow := xTbl_in (List.mem_of_getElem? (i := 918) (by decide +kernel)) rfl
theorem k_X0_isSeen : xMOK m_X0_isSeen := ⟨rfl, by decide, by decide +kernel⟩
theorem tg_X0_isSeen : xTg m_X0_isSeen 3 := ⟨by decide +kernel, xTbl_in (List.mem_of_getElem? (i := 922) (by decide +kernel)) rfl, xTbl_in (List.mem_of_getElem? (i := 76) (by decide +kernel)) rfl⟩
theorem sa_X0_isSeen : xSta m_X0_isSeen := xTbl_in (List.mem_of_getElem? (i := 921) (by decide +kernel)) rfl
theorem k_X0_someKind : xMOK m_X0_someKind := ⟨rfl, by decide, by decide +kernel⟩
theorem tg_X0_someKind : xTg m_X0_someKind 5 := ⟨by decide +kernel, xTbl_in (List.mem_of_getElem? (i := 925) (by decide +kernel)) rfl, xTbl_in (List.mem_of_getElem? (i := 76) (by decide +kernel)) rfl⟩
theorem sa_X0_someKind : xSta m_X0_someKind := xTbl_in (List.mem_of_getElem? (i := 924) (by decide +kernel)) rfl
theorem k_X0_agrees : xMOK m_X0_agrees := ⟨rfl, by decide, by decide +kernel⟩
theorem tg_X0_agrees : xTg m_X0_agrees 4 := ⟨by decide +kernel, xTbl_in (List.mem_of_getElem? (i := 928) (by decide +kernel)) rfl, xTbl_in (List.mem_of_getElem? (i := 76) (by decide +kernel)) rfl⟩
theorem sa_X0_agrees : xSta m_X0_agrees := xTbl_in (List.mem_of_getElem? (i := 927) (by decide +kernel)) rfl
theorem k_X1_init : xMOK m_X1_init := ⟨rfl, by decide, by decide +kernel⟩
theorem tg_X1_init : xTg m_X1_init 0 := ⟨by decide +kernel, xTbl_in (List.mem_of_getElem? (i := 97) (by decide +kernel)) rfl, xTbl_in (List.mem_of_getElem? (i := 68) (by decide +kernel)) rfl⟩
theorem in_X1_init : xIns m_X1_init := xTbl_in (List.mem_of_getElem? (i := 96) (by decide +kernel)) rfl
theorem k_X1_begin : xMOK m_X1_begin := ⟨rfl, by decide, by decide +kernel⟩
theorem tg_X1_begin : xTg m_X1_begin 0 := ⟨by decide +kernel, xTbl_in (List.mem_of_getElem? (i := 202) (by decide +kernel)) rfl, xTbl_in (List.mem_of_getElem? (i := 68) (by decide +kernel)) rfl⟩
theorem in_X1_begin : xIns m_X1_begin := xTbl_in (List.mem_of_getElem? (i := 200) (by decide +kernel)) rfl
theorem se_X1_begin : xSel m_X1_begin := xTbl_in (List.mem_of_getElem? (i := 201) (by decide +kernel)) rfl
theorem k_X1_copy : xMOK m_X1_copy := ⟨rfl, by decide, by decide +kernel⟩
theorem tg_X1_copy : xTg m_X1_copy 1 := ⟨by decide +kernel, xTbl_in (List.mem_of_getElem? (i := 572) (by decide +kernel)) rfl, xTbl_in (List.mem_of_getElem? (i := 68) (by decide +kernel)) rfl⟩
theorem in_X1_copy : xIns m_X1_copy := xTbl_in (List.mem_of_getElem? (i := 570) (by decide +kernel)) rfl
theorem se_X1_copy : xSel m_X1_copy := xTbl_in (List.mem_of_getElem? (i := 571) (by decide +kernel)) rfl
theorem k_X1_copyJudge : xMOK m_X1_copyJudge := ⟨rfl, by decide, by decide +kernel⟩
theorem tg_X1_copyJudge : xTg m_X1_copyJudge 2 := ⟨by decide +kernel, xTbl_in (List.mem_of_getElem? (i := 576) (by decide +kernel)) rfl, xTbl_in (List.mem_of_getElem? (i := 68) (by decide +kernel)) rfl⟩
theorem sa_X1_copyJudge : xSta m_X1_copyJudge := xTbl_in (List.mem_of_getElem? (i := 575) (by decide +kernel)) rfl
theorem k_X1_copySuit : xMOK m_X1_copySuit := ⟨rfl, by decide, by decide +kernel⟩
theorem tg_X1_copySuit : xTg m_X1_copySuit 2 := ⟨by decide +kernel, xTbl_in (List.mem_of_getElem? (i := 584) (by decide +kernel)) rfl, xTbl_in (List.mem_of_getElem? (i := 68) (by decide +kernel)) rfl⟩
theorem sa_X1_copySuit : xSta m_X1_copySuit := xTbl_in (List.mem_of_getElem? (i := 583) (by decide +kernel)) rfl
theorem k_X1_copySight : xMOK m_X1_copySight := ⟨rfl, by decide, by decide +kernel⟩
theorem tg_X1_copySight : xTg m_X1_copySight 2 := ⟨by decide +kernel, xTbl_in (List.mem_of_getElem? (i := 595) (by decide +kernel)) rfl, xTbl_in (List.mem_of_getElem? (i := 68) (by decide +kernel)) rfl⟩
theorem sa_X1_copySight : xSta m_X1_copySight := xTbl_in (List.mem_of_getElem? (i := 594) (by decide +kernel)) rfl
theorem k_X1_judgeAt : xMOK m_X1_judgeAt := ⟨rfl, by decide, by decide +kernel⟩
theorem tg_X1_judgeAt : xTg m_X1_judgeAt 1 := ⟨by decide +kernel, xTbl_in (List.mem_of_getElem? (i := 540) (by decide +kernel)) rfl, xTbl_in (List.mem_of_getElem? (i := 68) (by decide +kernel)) rfl⟩
theorem in_X1_judgeAt : xIns m_X1_judgeAt := xTbl_in (List.mem_of_getElem? (i := 538) (by decide +kernel)) rfl
theorem se_X1_judgeAt : xSel m_X1_judgeAt := xTbl_in (List.mem_of_getElem? (i := 539) (by decide +kernel)) rfl
theorem k_X1_suitAt : xMOK m_X1_suitAt := ⟨rfl, by decide, by decide +kernel⟩
theorem tg_X1_suitAt : xTg m_X1_suitAt 1 := ⟨by decide +kernel, xTbl_in (List.mem_of_getElem? (i := 556) (by decide +kernel)) rfl, xTbl_in (List.mem_of_getElem? (i := 68) (by decide +kernel)) rfl⟩
theorem in_X1_suitAt : xIns m_X1_suitAt := xTbl_in (List.mem_of_getElem? (i := 554) (by decide +kernel)) rfl
theorem se_X1_suitAt : xSel m_X1_suitAt := xTbl_in (List.mem_of_getElem? (i := 555) (by decide +kernel)) rfl
theorem k_X1_sightAt : xMOK m_X1_sightAt := ⟨rfl, by decide, by decide +kernel⟩
theorem tg_X1_sightAt : xTg m_X1_sightAt 1 := ⟨by decide +kernel, xTbl_in (List.mem_of_getElem? (i := 592) (by decide +kernel)) rfl, xTbl_in (List.mem_of_getElem? (i := 68) (by decide +kernel)) rfl⟩
theorem in_X1_sightAt : xIns m_X1_sightAt := xTbl_in (List.mem_of_getElem? (i := 590) (by decide +kernel)) rfl
theorem se_X1_sightAt : xSel m_X1_sightAt := xTbl_in (List.mem_of_getElem? (i := 591) (by decide +kernel)) rfl
theorem k_X1_addJudge : xMOK m_X1_addJudge := ⟨rfl, by decide, by decide +kernel⟩
theorem tg_X1_addJudge : xTg m_X1_addJudge 0 := ⟨by decide +kernel, xTbl_in (List.mem_of_getElem? (i := 532) (by decide +kernel)) rfl, xTbl_in (List.mem_of_getElem? (i := 68) (by decide +kernel)) rfl⟩
theorem in_X1_addJudge : xIns m_X1_addJudge := xTbl_in (List.mem_of_getElem? (i := 530) (by decide +kernel)) rfl
theorem se_X1_addJudge : xSel m_X1_addJudge := xTbl_in (List.mem_of_getElem? (i := 531) (by decide +kernel)) rfl
theorem k_X1_addSuit : xMOK m_X1_addSuit := ⟨rfl, by decide, by decide +kernel⟩
theorem tg_X1_addSuit : xTg m_X1_addSuit 0 := ⟨by decide +kernel, xTbl_in (List.mem_of_getElem? (i := 552) (by decide +kernel)) rfl, xTbl_in (List.mem_of_getElem? (i := 68) (by decide +kernel)) rfl⟩
theorem in_X1_addSuit : xIns m_X1_addSuit := xTbl_in (List.mem_of_getElem? (i := 550) (by decide +kernel)) rfl
theorem se_X1_addSuit : xSel m_X1_addSuit := xTbl_in (List.mem_of_getElem? (i := 551) (by decide +kernel)) rfl
theorem k_X1_addSight : xMOK m_X1_addSight := ⟨rfl, by decide, by decide +kernel⟩
theorem tg_X1_addSight : xTg m_X1_addSight 3 := ⟨by decide +kernel, xTbl_in (List.mem_of_getElem? (i := 886) (by decide +kernel)) rfl, xTbl_in (List.mem_of_getElem? (i := 68) (by decide +kernel)) rfl⟩
theorem in_X1_addSight : xIns m_X1_addSight := xTbl_in (List.mem_of_getElem? (i := 884) (by decide +kernel)) rfl
theorem se_X1_addSight : xSel m_X1_addSight := xTbl_in (List.mem_of_getElem? (i := 885) (by decide +kernel)) rfl
theorem k_X1_canHear : xMOK m_X1_canHear := ⟨rfl, by decide, by decide +kernel⟩
theorem tg_X1_canHear : xTg m_X1_canHear 3 := ⟨by decide +kernel, xTbl_in (List.mem_of_getElem? (i := 683) (by decide +kernel)) rfl, xTbl_in (List.mem_of_getElem? (i := 68) (by decide +kernel)) rfl⟩
theorem in_X1_canHear : xIns m_X1_canHear := xTbl_in (List.mem_of_getElem? (i := 681) (by decide +kernel)) rfl
theorem se_X1_canHear : xSel m_X1_canHear := xTbl_in (List.mem_of_getElem? (i := 682) (by decide +kernel)) rfl
theorem k_X1_anyBears : xMOK m_X1_anyBears := ⟨rfl, by decide, by decide +kernel⟩
theorem tg_X1_anyBears : xTg m_X1_anyBears 1 := ⟨by decide +kernel, xTbl_in (List.mem_of_getElem? (i := 855) (by decide +kernel)) rfl, xTbl_in (List.mem_of_getElem? (i := 68) (by decide +kernel)) rfl⟩
theorem in_X1_anyBears : xIns m_X1_anyBears := xTbl_in (List.mem_of_getElem? (i := 853) (by decide +kernel)) rfl
theorem se_X1_anyBears : xSel m_X1_anyBears := xTbl_in (List.mem_of_getElem? (i := 854) (by decide +kernel)) rfl
theorem k_X1_sentence : xMOK m_X1_sentence := ⟨rfl, by decide, by decide +kernel⟩
theorem tg_X1_sentence : xTg m_X1_sentence 3 := ⟨by decide +kernel, xTbl_in (List.mem_of_getElem? (i := 699) (by decide +kernel)) rfl, xTbl_in (List.mem_of_getElem? (i := 68) (by decide +kernel)) rfl⟩
theorem in_X1_sentence : xIns m_X1_sentence := xTbl_in (List.mem_of_getElem? (i := 697) (by decide +kernel)) rfl
theorem se_X1_sentence : xSel m_X1_sentence := xTbl_in (List.mem_of_getElem? (i := 698) (by decide +kernel)) rfl
theorem k_X1_sentenceToLeast : xMOK m_X1_sentenceToLeast := ⟨rfl, by decide, by decide +kernel⟩
theorem tg_X1_sentenceToLeast : xTg m_X1_sentenceToLeast 2 := ⟨by decide +kernel, xTbl_in (List.mem_of_getElem? (i := 779) (by decide +kernel)) rfl, xTbl_in (List.mem_of_getElem? (i := 68) (by decide +kernel)) rfl⟩
theorem in_X1_sentenceToLeast : xIns m_X1_sentenceToLeast := xTbl_in (List.mem_of_getElem? (i := 777) (by decide +kernel)) rfl
theorem se_X1_sentenceToLeast : xSel m_X1_sentenceToLeast := xTbl_in (List.mem_of_getElem? (i := 778) (by decide +kernel)) rfl
theorem k_X1_undo : xMOK m_X1_undo := ⟨rfl, by decide, by decide +kernel⟩
theorem tg_X1_undo : xTg m_X1_undo 1 := ⟨by decide +kernel, xTbl_in (List.mem_of_getElem? (i := 719) (by decide +kernel)) rfl, xTbl_in (List.mem_of_getElem? (i := 68) (by decide +kernel)) rfl⟩
theorem in_X1_undo : xIns m_X1_undo := xTbl_in (List.mem_of_getElem? (i := 717) (by decide +kernel)) rfl
theorem se_X1_undo : xSel m_X1_undo := xTbl_in (List.mem_of_getElem? (i := 718) (by decide +kernel)) rfl
theorem k_X1_crimeWithout : xMOK m_X1_crimeWithout := ⟨rfl, by decide, by decide +kernel⟩
theorem tg_X1_crimeWithout : xTg m_X1_crimeWithout 1 := ⟨by decide +kernel, xTbl_in (List.mem_of_getElem? (i := 867) (by decide +kernel)) rfl, xTbl_in (List.mem_of_getElem? (i := 68) (by decide +kernel)) rfl⟩
theorem in_X1_crimeWithout : xIns m_X1_crimeWithout := xTbl_in (List.mem_of_getElem? (i := 865) (by decide +kernel)) rfl
theorem se_X1_crimeWithout : xSel m_X1_crimeWithout := xTbl_in (List.mem_of_getElem? (i := 866) (by decide +kernel)) rfl
theorem k_X1_nextDay : xMOK m_X1_nextDay := ⟨rfl, by decide, by decide +kernel⟩
theorem tg_X1_nextDay : xTg m_X1_nextDay 0 := ⟨by decide +kernel, xTbl_in (List.mem_of_getElem? (i := 738) (by decide +kernel)) rfl, xTbl_in (List.mem_of_getElem? (i := 68) (by decide +kernel)) rfl⟩
theorem in_X1_nextDay : xIns m_X1_nextDay := xTbl_in (List.mem_of_getElem? (i := 736) (by decide +kernel)) rfl
theorem se_X1_nextDay : xSel m_X1_nextDay := xTbl_in (List.mem_of_getElem? (i := 737) (by decide +kernel)) rfl
theorem k_X1_heardBits : xMOK m_X1_heardBits := ⟨rfl, by decide, by decide +kernel⟩
theorem tg_X1_heardBits : xTg m_X1_heardBits 0 := ⟨by decide +kernel, xTbl_in (List.mem_of_getElem? (i := 619) (by decide +kernel)) rfl, xTbl_in (List.mem_of_getElem? (i := 68) (by decide +kernel)) rfl⟩
theorem in_X1_heardBits : xIns m_X1_heardBits := xTbl_in (List.mem_of_getElem? (i := 617) (by decide +kernel)) rfl
theorem se_X1_heardBits : xSel m_X1_heardBits := xTbl_in (List.mem_of_getElem? (i := 618) (by decide +kernel)) rfl
theorem k_X1_bitsBy : xMOK m_X1_bitsBy := ⟨rfl, by decide, by decide +kernel⟩
theorem tg_X1_bitsBy : xTg m_X1_bitsBy 1 := ⟨by decide +kernel, xTbl_in (List.mem_of_getElem? (i := 640) (by decide +kernel)) rfl, xTbl_in (List.mem_of_getElem? (i := 68) (by decide +kernel)) rfl⟩
theorem in_X1_bitsBy : xIns m_X1_bitsBy := xTbl_in (List.mem_of_getElem? (i := 638) (by decide +kernel)) rfl
theorem se_X1_bitsBy : xSel m_X1_bitsBy := xTbl_in (List.mem_of_getElem? (i := 639) (by decide +kernel)) rfl
theorem k_X1_awayBits : xMOK m_X1_awayBits := ⟨rfl, by decide, by decide +kernel⟩
theorem tg_X1_awayBits : xTg m_X1_awayBits 0 := ⟨by decide +kernel, xTbl_in (List.mem_of_getElem? (i := 627) (by decide +kernel)) rfl, xTbl_in (List.mem_of_getElem? (i := 68) (by decide +kernel)) rfl⟩
theorem in_X1_awayBits : xIns m_X1_awayBits := xTbl_in (List.mem_of_getElem? (i := 625) (by decide +kernel)) rfl
theorem se_X1_awayBits : xSel m_X1_awayBits := xTbl_in (List.mem_of_getElem? (i := 626) (by decide +kernel)) rfl
theorem k_X1_isClear : xMOK m_X1_isClear := ⟨rfl, by decide, by decide +kernel⟩
theorem tg_X1_isClear : xTg m_X1_isClear 0 := ⟨by decide +kernel, xTbl_in (List.mem_of_getElem? (i := 764) (by decide +kernel)) rfl, xTbl_in (List.mem_of_getElem? (i := 68) (by decide +kernel)) rfl⟩
theorem in_X1_isClear : xIns m_X1_isClear := xTbl_in (List.mem_of_getElem? (i := 762) (by decide +kernel)) rfl
theorem se_X1_isClear : xSel m_X1_isClear := xTbl_in (List.mem_of_getElem? (i := 763) (by decide +kernel)) rfl
theorem k_X1_allSentences : xMOK m_X1_allSentences := ⟨rfl, by decide, by decide +kernel⟩
theorem tg_X1_allSentences : xTg m_X1_allSentences 0 := ⟨by decide +kernel, xTbl_in (List.mem_of_getElem? (i := 631) (by decide +kernel)) rfl, xTbl_in (List.mem_of_getElem? (i := 68) (by decide +kernel)) rfl⟩
theorem in_X1_allSentences : xIns m_X1_allSentences := xTbl_in (List.mem_of_getElem? (i := 629) (by decide +kernel)) rfl
theorem se_X1_allSentences : xSel m_X1_allSentences := xTbl_in (List.mem_of_getElem? (i := 630) (by decide +kernel)) rfl
theorem k_X1_allPurses : xMOK m_X1_allPurses := ⟨rfl, by decide, by decide +kernel⟩
theorem tg_X1_allPurses : xTg m_X1_allPurses 0 := ⟨by decide +kernel, xTbl_in (List.mem_of_getElem? (i := 786) (by decide +kernel)) rfl, xTbl_in (List.mem_of_getElem? (i := 68) (by decide +kernel)) rfl⟩
theorem in_X1_allPurses : xIns m_X1_allPurses := xTbl_in (List.mem_of_getElem? (i := 784) (by decide +kernel)) rfl
theorem se_X1_allPurses : xSel m_X1_allPurses := xTbl_in (List.mem_of_getElem? (i := 785) (by decide +kernel)) rfl
theorem k_X1_allHealth : xMOK m_X1_allHealth := ⟨rfl, by decide, by decide +kernel⟩
theorem tg_X1_allHealth : xTg m_X1_allHealth 0 := ⟨by decide +kernel, xTbl_in (List.mem_of_getElem? (i := 790) (by decide +kernel)) rfl, xTbl_in (List.mem_of_getElem? (i := 68) (by decide +kernel)) rfl⟩
theorem in_X1_allHealth : xIns m_X1_allHealth := xTbl_in (List.mem_of_getElem? (i := 788) (by decide +kernel)) rfl
theorem se_X1_allHealth : xSel m_X1_allHealth := xTbl_in (List.mem_of_getElem? (i := 789) (by decide +kernel)) rfl
theorem k_X1_allScars : xMOK m_X1_allScars := ⟨rfl, by decide, by decide +kernel⟩
theorem tg_X1_allScars : xTg m_X1_allScars 0 := ⟨by decide +kernel, xTbl_in (List.mem_of_getElem? (i := 1003) (by decide +kernel)) rfl, xTbl_in (List.mem_of_getElem? (i := 68) (by decide +kernel)) rfl⟩
theorem in_X1_allScars : xIns m_X1_allScars := xTbl_in (List.mem_of_getElem? (i := 1001) (by decide +kernel)) rfl
theorem se_X1_allScars : xSel m_X1_allScars := xTbl_in (List.mem_of_getElem? (i := 1002) (by decide +kernel)) rfl
theorem k_X2_init : xMOK m_X2_init := ⟨rfl, by decide, by decide +kernel⟩
theorem tg_X2_init : xTg m_X2_init 0 := ⟨by decide +kernel, xTbl_in (List.mem_of_getElem? (i := 302) (by decide +kernel)) rfl, xTbl_in (List.mem_of_getElem? (i := 74) (by decide +kernel)) rfl⟩
theorem in_X2_init : xIns m_X2_init := xTbl_in (List.mem_of_getElem? (i := 301) (by decide +kernel)) rfl
theorem k_X2_seatAll : xMOK m_X2_seatAll := ⟨rfl, by decide, by decide +kernel⟩
theorem tg_X2_seatAll : xTg m_X2_seatAll 1 := ⟨by decide +kernel, xTbl_in (List.mem_of_getElem? (i := 747) (by decide +kernel)) rfl, xTbl_in (List.mem_of_getElem? (i := 74) (by decide +kernel)) rfl⟩
theorem in_X2_seatAll : xIns m_X2_seatAll := xTbl_in (List.mem_of_getElem? (i := 745) (by decide +kernel)) rfl
theorem se_X2_seatAll : xSel m_X2_seatAll := xTbl_in (List.mem_of_getElem? (i := 746) (by decide +kernel)) rfl
theorem k_X2_seatWithout : xMOK m_X2_seatWithout := ⟨rfl, by decide, by decide +kernel⟩
theorem tg_X2_seatWithout : xTg m_X2_seatWithout 2 := ⟨by decide +kernel, xTbl_in (List.mem_of_getElem? (i := 751) (by decide +kernel)) rfl, xTbl_in (List.mem_of_getElem? (i := 74) (by decide +kernel)) rfl⟩
theorem in_X2_seatWithout : xIns m_X2_seatWithout := xTbl_in (List.mem_of_getElem? (i := 749) (by decide +kernel)) rfl
theorem se_X2_seatWithout : xSel m_X2_seatWithout := xTbl_in (List.mem_of_getElem? (i := 750) (by decide +kernel)) rfl
theorem k_X2_seatBy : xMOK m_X2_seatBy := ⟨rfl, by decide, by decide +kernel⟩
theorem tg_X2_seatBy : xTg m_X2_seatBy 2 := ⟨by decide +kernel, xTbl_in (List.mem_of_getElem? (i := 837) (by decide +kernel)) rfl, xTbl_in (List.mem_of_getElem? (i := 74) (by decide +kernel)) rfl⟩
theorem in_X2_seatBy : xIns m_X2_seatBy := xTbl_in (List.mem_of_getElem? (i := 836) (by decide +kernel)) rfl
theorem se_X2_seatBy : xSel m_X2_seatBy := xTbl_in (List.mem_of_getElem? (i := 16) (by decide +kernel)) rfl
theorem k_X2_seat : xMOK m_X2_seat := ⟨rfl, by decide, by decide +kernel⟩
theorem tg_X2_seat : xTg m_X2_seat 1 := ⟨by decide +kernel, xTbl_in (List.mem_of_getElem? (i := 755) (by decide +kernel)) rfl, xTbl_in (List.mem_of_getElem? (i := 74) (by decide +kernel)) rfl⟩
theorem in_X2_seat : xIns m_X2_seat := xTbl_in (List.mem_of_getElem? (i := 754) (by decide +kernel)) rfl
theorem se_X2_seat : xSel m_X2_seat := xTbl_in (List.mem_of_getElem? (i := 14) (by decide +kernel)) rfl
theorem k_X2_searchOrder : xMOK m_X2_searchOrder := ⟨rfl, by decide, by decide +kernel⟩
theorem tg_X2_searchOrder : xTg m_X2_searchOrder 3 := ⟨by decide +kernel, xTbl_in (List.mem_of_getElem? (i := 832) (by decide +kernel)) rfl, xTbl_in (List.mem_of_getElem? (i := 74) (by decide +kernel)) rfl⟩
theorem in_X2_searchOrder : xIns m_X2_searchOrder := xTbl_in (List.mem_of_getElem? (i := 830) (by decide +kernel)) rfl
theorem se_X2_searchOrder : xSel m_X2_searchOrder := xTbl_in (List.mem_of_getElem? (i := 831) (by decide +kernel)) rfl
theorem k_X2_play : xMOK m_X2_play := ⟨rfl, by decide, by decide +kernel⟩
theorem tg_X2_play : xTg m_X2_play 3 := ⟨by decide +kernel, xTbl_in (List.mem_of_getElem? (i := 759) (by decide +kernel)) rfl, xTbl_in (List.mem_of_getElem? (i := 74) (by decide +kernel)) rfl⟩
theorem in_X2_play : xIns m_X2_play := xTbl_in (List.mem_of_getElem? (i := 757) (by decide +kernel)) rfl
theorem se_X2_play : xSel m_X2_play := xTbl_in (List.mem_of_getElem? (i := 758) (by decide +kernel)) rfl
theorem k_X2_hearFirst : xMOK m_X2_hearFirst := ⟨rfl, by decide, by decide +kernel⟩
theorem tg_X2_hearFirst : xTg m_X2_hearFirst 2 := ⟨by decide +kernel, xTbl_in (List.mem_of_getElem? (i := 775) (by decide +kernel)) rfl, xTbl_in (List.mem_of_getElem? (i := 74) (by decide +kernel)) rfl⟩
theorem sa_X2_hearFirst : xSta m_X2_hearFirst := xTbl_in (List.mem_of_getElem? (i := 774) (by decide +kernel)) rfl
theorem k_X3_init : xMOK m_X3_init := ⟨rfl, by decide, by decide +kernel⟩
theorem tg_X3_init : xTg m_X3_init 0 := ⟨by decide +kernel, xTbl_in (List.mem_of_getElem? (i := 247) (by decide +kernel)) rfl, xTbl_in (List.mem_of_getElem? (i := 72) (by decide +kernel)) rfl⟩
theorem in_X3_init : xIns m_X3_init := xTbl_in (List.mem_of_getElem? (i := 246) (by decide +kernel)) rfl
theorem k_X4_init : xMOK m_X4_init := ⟨rfl, by decide, by decide +kernel⟩
theorem tg_X4_init : xTg m_X4_init 0 := ⟨by decide +kernel, xTbl_in (List.mem_of_getElem? (i := 104) (by decide +kernel)) rfl, xTbl_in (List.mem_of_getElem? (i := 69) (by decide +kernel)) rfl⟩
theorem in_X4_init : xIns m_X4_init := xTbl_in (List.mem_of_getElem? (i := 103) (by decide +kernel)) rfl
theorem k_X4_begin : xMOK m_X4_begin := ⟨rfl, by decide, by decide +kernel⟩
theorem tg_X4_begin : xTg m_X4_begin 3 := ⟨by decide +kernel, xTbl_in (List.mem_of_getElem? (i := 544) (by decide +kernel)) rfl, xTbl_in (List.mem_of_getElem? (i := 69) (by decide +kernel)) rfl⟩
theorem in_X4_begin : xIns m_X4_begin := xTbl_in (List.mem_of_getElem? (i := 542) (by decide +kernel)) rfl
theorem se_X4_begin : xSel m_X4_begin := xTbl_in (List.mem_of_getElem? (i := 543) (by decide +kernel)) rfl
theorem k_X4_copy : xMOK m_X4_copy := ⟨rfl, by decide, by decide +kernel⟩
theorem tg_X4_copy : xTg m_X4_copy 1 := ⟨by decide +kernel, xTbl_in (List.mem_of_getElem? (i := 580) (by decide +kernel)) rfl, xTbl_in (List.mem_of_getElem? (i := 69) (by decide +kernel)) rfl⟩
theorem in_X4_copy : xIns m_X4_copy := xTbl_in (List.mem_of_getElem? (i := 578) (by decide +kernel)) rfl
theorem se_X4_copy : xSel m_X4_copy := xTbl_in (List.mem_of_getElem? (i := 579) (by decide +kernel)) rfl
theorem k_X4_bears : xMOK m_X4_bears := ⟨rfl, by decide, by decide +kernel⟩
theorem tg_X4_bears : xTg m_X4_bears 2 := ⟨by decide +kernel, xTbl_in (List.mem_of_getElem? (i := 688) (by decide +kernel)) rfl, xTbl_in (List.mem_of_getElem? (i := 69) (by decide +kernel)) rfl⟩
theorem in_X4_bears : xIns m_X4_bears := xTbl_in (List.mem_of_getElem? (i := 686) (by decide +kernel)) rfl
theorem se_X4_bears : xSel m_X4_bears := xTbl_in (List.mem_of_getElem? (i := 687) (by decide +kernel)) rfl
theorem k_X4_serve : xMOK m_X4_serve := ⟨rfl, by decide, by decide +kernel⟩
theorem tg_X4_serve : xTg m_X4_serve 3 := ⟨by decide +kernel, xTbl_in (List.mem_of_getElem? (i := 704) (by decide +kernel)) rfl, xTbl_in (List.mem_of_getElem? (i := 69) (by decide +kernel)) rfl⟩
theorem in_X4_serve : xIns m_X4_serve := xTbl_in (List.mem_of_getElem? (i := 702) (by decide +kernel)) rfl
theorem se_X4_serve : xSel m_X4_serve := xTbl_in (List.mem_of_getElem? (i := 703) (by decide +kernel)) rfl
theorem k_X4_regain : xMOK m_X4_regain := ⟨rfl, by decide, by decide +kernel⟩
theorem tg_X4_regain : xTg m_X4_regain 3 := ⟨by decide +kernel, xTbl_in (List.mem_of_getElem? (i := 723) (by decide +kernel)) rfl, xTbl_in (List.mem_of_getElem? (i := 69) (by decide +kernel)) rfl⟩
theorem in_X4_regain : xIns m_X4_regain := xTbl_in (List.mem_of_getElem? (i := 721) (by decide +kernel)) rfl
theorem se_X4_regain : xSel m_X4_regain := xTbl_in (List.mem_of_getElem? (i := 722) (by decide +kernel)) rfl
theorem k_X5_init : xMOK m_X5_init := ⟨rfl, by decide, by decide +kernel⟩
theorem tg_X5_init : xTg m_X5_init 0 := ⟨by decide +kernel, xTbl_in (List.mem_of_getElem? (i := 332) (by decide +kernel)) rfl, xTbl_in (List.mem_of_getElem? (i := 75) (by decide +kernel)) rfl⟩
theorem in_X5_init : xIns m_X5_init := xTbl_in (List.mem_of_getElem? (i := 331) (by decide +kernel)) rfl
theorem k_X5_search : xMOK m_X5_search := ⟨rfl, by decide, by decide +kernel⟩
theorem tg_X5_search : xTg m_X5_search 1 := ⟨by decide +kernel, xTbl_in (List.mem_of_getElem? (i := 803) (by decide +kernel)) rfl, xTbl_in (List.mem_of_getElem? (i := 75) (by decide +kernel)) rfl⟩
theorem in_X5_search : xIns m_X5_search := xTbl_in (List.mem_of_getElem? (i := 801) (by decide +kernel)) rfl
theorem se_X5_search : xSel m_X5_search := xTbl_in (List.mem_of_getElem? (i := 802) (by decide +kernel)) rfl
theorem k_X5_suitOf : xMOK m_X5_suitOf := ⟨rfl, by decide, by decide +kernel⟩
theorem tg_X5_suitOf : xTg m_X5_suitOf 1 := ⟨by decide +kernel, xTbl_in (List.mem_of_getElem? (i := 819) (by decide +kernel)) rfl, xTbl_in (List.mem_of_getElem? (i := 75) (by decide +kernel)) rfl⟩
theorem in_X5_suitOf : xIns m_X5_suitOf := xTbl_in (List.mem_of_getElem? (i := 817) (by decide +kernel)) rfl
theorem se_X5_suitOf : xSel m_X5_suitOf := xTbl_in (List.mem_of_getElem? (i := 818) (by decide +kernel)) rfl
theorem k_X5_choose : xMOK m_X5_choose := ⟨rfl, by decide, by decide +kernel⟩
theorem tg_X5_choose : xTg m_X5_choose 5 := ⟨by decide +kernel, xTbl_in (List.mem_of_getElem? (i := 806) (by decide +kernel)) rfl, xTbl_in (List.mem_of_getElem? (i := 75) (by decide +kernel)) rfl⟩
theorem sa_X5_choose : xSta m_X5_choose := xTbl_in (List.mem_of_getElem? (i := 805) (by decide +kernel)) rfl
theorem k_X5_weigh : xMOK m_X5_weigh := ⟨rfl, by decide, by decide +kernel⟩
theorem tg_X5_weigh : xTg m_X5_weigh 2 := ⟨by decide +kernel, xTbl_in (List.mem_of_getElem? (i := 812) (by decide +kernel)) rfl, xTbl_in (List.mem_of_getElem? (i := 75) (by decide +kernel)) rfl⟩
theorem in_X5_weigh : xIns m_X5_weigh := xTbl_in (List.mem_of_getElem? (i := 811) (by decide +kernel)) rfl
theorem se_X5_weigh : xSel m_X5_weigh := xTbl_in (List.mem_of_getElem? (i := 15) (by decide +kernel)) rfl
theorem k_X6_init : xMOK m_X6_init := ⟨rfl, by decide, by decide +kernel⟩
theorem tg_X6_init : xTg m_X6_init 0 := ⟨by decide +kernel, xTbl_in (List.mem_of_getElem? (i := 364) (by decide +kernel)) rfl, xTbl_in (List.mem_of_getElem? (i := 77) (by decide +kernel)) rfl⟩
theorem in_X6_init : xIns m_X6_init := xTbl_in (List.mem_of_getElem? (i := 363) (by decide +kernel)) rfl
theorem k_X6_begin : xMOK m_X6_begin := ⟨rfl, by decide, by decide +kernel⟩
theorem tg_X6_begin : xTg m_X6_begin 2 := ⟨by decide +kernel, xTbl_in (List.mem_of_getElem? (i := 961) (by decide +kernel)) rfl, xTbl_in (List.mem_of_getElem? (i := 77) (by decide +kernel)) rfl⟩
theorem in_X6_begin : xIns m_X6_begin := xTbl_in (List.mem_of_getElem? (i := 959) (by decide +kernel)) rfl
theorem se_X6_begin : xSel m_X6_begin := xTbl_in (List.mem_of_getElem? (i := 960) (by decide +kernel)) rfl
theorem k_X6_put : xMOK m_X6_put := ⟨rfl, by decide, by decide +kernel⟩
theorem tg_X6_put : xTg m_X6_put 2 := ⟨by decide +kernel, xTbl_in (List.mem_of_getElem? (i := 969) (by decide +kernel)) rfl, xTbl_in (List.mem_of_getElem? (i := 77) (by decide +kernel)) rfl⟩
theorem in_X6_put : xIns m_X6_put := xTbl_in (List.mem_of_getElem? (i := 967) (by decide +kernel)) rfl
theorem se_X6_put : xSel m_X6_put := xTbl_in (List.mem_of_getElem? (i := 968) (by decide +kernel)) rfl
theorem k_X6_cell : xMOK m_X6_cell := ⟨rfl, by decide, by decide +kernel⟩
theorem tg_X6_cell : xTg m_X6_cell 1 := ⟨by decide +kernel, xTbl_in (List.mem_of_getElem? (i := 983) (by decide +kernel)) rfl, xTbl_in (List.mem_of_getElem? (i := 77) (by decide +kernel)) rfl⟩
theorem in_X6_cell : xIns m_X6_cell := xTbl_in (List.mem_of_getElem? (i := 981) (by decide +kernel)) rfl
theorem se_X6_cell : xSel m_X6_cell := xTbl_in (List.mem_of_getElem? (i := 982) (by decide +kernel)) rfl
theorem k_X6_faultTakenAs : xMOK m_X6_faultTakenAs := ⟨rfl, by decide, by decide +kernel⟩
theorem tg_X6_faultTakenAs : xTg m_X6_faultTakenAs 1 := ⟨by decide +kernel, xTbl_in (List.mem_of_getElem? (i := 977) (by decide +kernel)) rfl, xTbl_in (List.mem_of_getElem? (i := 77) (by decide +kernel)) rfl⟩
theorem in_X6_faultTakenAs : xIns m_X6_faultTakenAs := xTbl_in (List.mem_of_getElem? (i := 975) (by decide +kernel)) rfl
theorem se_X6_faultTakenAs : xSel m_X6_faultTakenAs := xTbl_in (List.mem_of_getElem? (i := 976) (by decide +kernel)) rfl
theorem k_X7_init : xMOK m_X7_init := ⟨rfl, by decide, by decide +kernel⟩
theorem tg_X7_init : xTg m_X7_init 0 := ⟨by decide +kernel, xTbl_in (List.mem_of_getElem? (i := 181) (by decide +kernel)) rfl, xTbl_in (List.mem_of_getElem? (i := 71) (by decide +kernel)) rfl⟩
theorem in_X7_init : xIns m_X7_init := xTbl_in (List.mem_of_getElem? (i := 180) (by decide +kernel)) rfl
theorem k_X7_begin : xMOK m_X7_begin := ⟨rfl, by decide, by decide +kernel⟩
theorem tg_X7_begin : xTg m_X7_begin 3 := ⟨by decide +kernel, xTbl_in (List.mem_of_getElem? (i := 599) (by decide +kernel)) rfl, xTbl_in (List.mem_of_getElem? (i := 71) (by decide +kernel)) rfl⟩
theorem in_X7_begin : xIns m_X7_begin := xTbl_in (List.mem_of_getElem? (i := 597) (by decide +kernel)) rfl
theorem se_X7_begin : xSel m_X7_begin := xTbl_in (List.mem_of_getElem? (i := 598) (by decide +kernel)) rfl
theorem k_X8_init : xMOK m_X8_init := ⟨rfl, by decide, by decide +kernel⟩
theorem tg_X8_init : xTg m_X8_init 0 := ⟨by decide +kernel, xTbl_in (List.mem_of_getElem? (i := 137) (by decide +kernel)) rfl, xTbl_in (List.mem_of_getElem? (i := 70) (by decide +kernel)) rfl⟩
theorem in_X8_init : xIns m_X8_init := xTbl_in (List.mem_of_getElem? (i := 136) (by decide +kernel)) rfl
theorem k_X8_begin : xMOK m_X8_begin := ⟨rfl, by decide, by decide +kernel⟩
theorem tg_X8_begin : xTg m_X8_begin 4 := ⟨by decide +kernel, xTbl_in (List.mem_of_getElem? (i := 560) (by decide +kernel)) rfl, xTbl_in (List.mem_of_getElem? (i := 70) (by decide +kernel)) rfl⟩
theorem in_X8_begin : xIns m_X8_begin := xTbl_in (List.mem_of_getElem? (i := 558) (by decide +kernel)) rfl
theorem se_X8_begin : xSel m_X8_begin := xTbl_in (List.mem_of_getElem? (i := 559) (by decide +kernel)) rfl
theorem k_X8_close : xMOK m_X8_close := ⟨rfl, by decide, by decide +kernel⟩
theorem tg_X8_close : xTg m_X8_close 3 := ⟨by decide +kernel, xTbl_in (List.mem_of_getElem? (i := 564) (by decide +kernel)) rfl, xTbl_in (List.mem_of_getElem? (i := 70) (by decide +kernel)) rfl⟩
theorem in_X8_close : xIns m_X8_close := xTbl_in (List.mem_of_getElem? (i := 562) (by decide +kernel)) rfl
theorem se_X8_close : xSel m_X8_close := xTbl_in (List.mem_of_getElem? (i := 563) (by decide +kernel)) rfl
theorem k_X8_copy : xMOK m_X8_copy := ⟨rfl, by decide, by decide +kernel⟩
theorem tg_X8_copy : xTg m_X8_copy 1 := ⟨by decide +kernel, xTbl_in (List.mem_of_getElem? (i := 588) (by decide +kernel)) rfl, xTbl_in (List.mem_of_getElem? (i := 70) (by decide +kernel)) rfl⟩
theorem in_X8_copy : xIns m_X8_copy := xTbl_in (List.mem_of_getElem? (i := 586) (by decide +kernel)) rfl
theorem se_X8_copy : xSel m_X8_copy := xTbl_in (List.mem_of_getElem? (i := 587) (by decide +kernel)) rfl
theorem k_X8_isHeard : xMOK m_X8_isHeard := ⟨rfl, by decide, by decide +kernel⟩
theorem tg_X8_isHeard : xTg m_X8_isHeard 0 := ⟨by decide +kernel, xTbl_in (List.mem_of_getElem? (i := 623) (by decide +kernel)) rfl, xTbl_in (List.mem_of_getElem? (i := 70) (by decide +kernel)) rfl⟩
theorem in_X8_isHeard : xIns m_X8_isHeard := xTbl_in (List.mem_of_getElem? (i := 621) (by decide +kernel)) rfl
theorem se_X8_isHeard : xSel m_X8_isHeard := xTbl_in (List.mem_of_getElem? (i := 622) (by decide +kernel)) rfl
theorem k_X8_admits : xMOK m_X8_admits := ⟨rfl, by decide, by decide +kernel⟩
theorem tg_X8_admits : xTg m_X8_admits 2 := ⟨by decide +kernel, xTbl_in (List.mem_of_getElem? (i := 665) (by decide +kernel)) rfl, xTbl_in (List.mem_of_getElem? (i := 70) (by decide +kernel)) rfl⟩
theorem in_X8_admits : xIns m_X8_admits := xTbl_in (List.mem_of_getElem? (i := 663) (by decide +kernel)) rfl
theorem se_X8_admits : xSel m_X8_admits := xTbl_in (List.mem_of_getElem? (i := 664) (by decide +kernel)) rfl
theorem k_X8_replace : xMOK m_X8_replace := ⟨rfl, by decide, by decide +kernel⟩
theorem tg_X8_replace : xTg m_X8_replace 2 := ⟨by decide +kernel, xTbl_in (List.mem_of_getElem? (i := 671) (by decide +kernel)) rfl, xTbl_in (List.mem_of_getElem? (i := 70) (by decide +kernel)) rfl⟩
theorem in_X8_replace : xIns m_X8_replace := xTbl_in (List.mem_of_getElem? (i := 669) (by decide +kernel)) rfl
theorem se_X8_replace : xSel m_X8_replace := xTbl_in (List.mem_of_getElem? (i := 670) (by decide +kernel)) rfl
theorem k_X9_init : xMOK m_X9_init := ⟨rfl, by decide, by decide +kernel⟩
theorem tg_X9_init : xTg m_X9_init 0 := ⟨by decide +kernel, xTbl_in (List.mem_of_getElem? (i := 264) (by decide +kernel)) rfl, xTbl_in (List.mem_of_getElem? (i := 73) (by decide +kernel)) rfl⟩
theorem in_X9_init : xIns m_X9_init := xTbl_in (List.mem_of_getElem? (i := 263) (by decide +kernel)) rfl
theorem k_X9_append : xMOK m_X9_append := ⟨rfl, by decide, by decide +kernel⟩
theorem tg_X9_append : xTg m_X9_append 1 := ⟨by decide +kernel, xTbl_in (List.mem_of_getElem? (i := 416) (by decide +kernel)) rfl, xTbl_in (List.mem_of_getElem? (i := 73) (by decide +kernel)) rfl⟩
theorem in_X9_append : xIns m_X9_append := xTbl_in (List.mem_of_getElem? (i := 414) (by decide +kernel)) rfl
theorem se_X9_append : xSel m_X9_append := xTbl_in (List.mem_of_getElem? (i := 415) (by decide +kernel)) rfl
theorem k_X9_parse : xMOK m_X9_parse := ⟨rfl, by decide, by decide +kernel⟩
theorem tg_X9_parse : xTg m_X9_parse 1 := ⟨by decide +kernel, xTbl_in (List.mem_of_getElem? (i := 428) (by decide +kernel)) rfl, xTbl_in (List.mem_of_getElem? (i := 73) (by decide +kernel)) rfl⟩
theorem in_X9_parse : xIns m_X9_parse := xTbl_in (List.mem_of_getElem? (i := 426) (by decide +kernel)) rfl
theorem se_X9_parse : xSel m_X9_parse := xTbl_in (List.mem_of_getElem? (i := 427) (by decide +kernel)) rfl
theorem k_X9_line : xMOK m_X9_line := ⟨rfl, by decide, by decide +kernel⟩
theorem tg_X9_line : xTg m_X9_line 1 := ⟨by decide +kernel, xTbl_in (List.mem_of_getElem? (i := 456) (by decide +kernel)) rfl, xTbl_in (List.mem_of_getElem? (i := 73) (by decide +kernel)) rfl⟩
theorem in_X9_line : xIns m_X9_line := xTbl_in (List.mem_of_getElem? (i := 455) (by decide +kernel)) rfl
theorem se_X9_line : xSel m_X9_line := xTbl_in (List.mem_of_getElem? (i := 5) (by decide +kernel)) rfl
theorem k_X9_lineOfJudge : xMOK m_X9_lineOfJudge := ⟨rfl, by decide, by decide +kernel⟩
theorem tg_X9_lineOfJudge : xTg m_X9_lineOfJudge 2 := ⟨by decide +kernel, xTbl_in (List.mem_of_getElem? (i := 528) (by decide +kernel)) rfl, xTbl_in (List.mem_of_getElem? (i := 73) (by decide +kernel)) rfl⟩
theorem in_X9_lineOfJudge : xIns m_X9_lineOfJudge := xTbl_in (List.mem_of_getElem? (i := 527) (by decide +kernel)) rfl
theorem se_X9_lineOfJudge : xSel m_X9_lineOfJudge := xTbl_in (List.mem_of_getElem? (i := 8) (by decide +kernel)) rfl
theorem k_X9_lineOfSuit : xMOK m_X9_lineOfSuit := ⟨rfl, by decide, by decide +kernel⟩
theorem tg_X9_lineOfSuit : xTg m_X9_lineOfSuit 2 := ⟨by decide +kernel, xTbl_in (List.mem_of_getElem? (i := 548) (by decide +kernel)) rfl, xTbl_in (List.mem_of_getElem? (i := 73) (by decide +kernel)) rfl⟩
theorem in_X9_lineOfSuit : xIns m_X9_lineOfSuit := xTbl_in (List.mem_of_getElem? (i := 547) (by decide +kernel)) rfl
theorem se_X9_lineOfSuit : xSel m_X9_lineOfSuit := xTbl_in (List.mem_of_getElem? (i := 10) (by decide +kernel)) rfl
theorem k_X9_lineOfCrime : xMOK m_X9_lineOfCrime := ⟨rfl, by decide, by decide +kernel⟩
theorem tg_X9_lineOfCrime : xTg m_X9_lineOfCrime 1 := ⟨by decide +kernel, xTbl_in (List.mem_of_getElem? (i := 568) (by decide +kernel)) rfl, xTbl_in (List.mem_of_getElem? (i := 73) (by decide +kernel)) rfl⟩
theorem in_X9_lineOfCrime : xIns m_X9_lineOfCrime := xTbl_in (List.mem_of_getElem? (i := 567) (by decide +kernel)) rfl
theorem se_X9_lineOfCrime : xSel m_X9_lineOfCrime := xTbl_in (List.mem_of_getElem? (i := 11) (by decide +kernel)) rfl
theorem k_X9_number : xMOK m_X9_number := ⟨rfl, by decide, by decide +kernel⟩
theorem tg_X9_number : xTg m_X9_number 2 := ⟨by decide +kernel, xTbl_in (List.mem_of_getElem? (i := 536) (by decide +kernel)) rfl, xTbl_in (List.mem_of_getElem? (i := 73) (by decide +kernel)) rfl⟩
theorem in_X9_number : xIns m_X9_number := xTbl_in (List.mem_of_getElem? (i := 535) (by decide +kernel)) rfl
theorem se_X9_number : xSel m_X9_number := xTbl_in (List.mem_of_getElem? (i := 9) (by decide +kernel)) rfl
theorem k_X9_fail : xMOK m_X9_fail := ⟨rfl, by decide, by decide +kernel⟩
theorem tg_X9_fail : xTg m_X9_fail 1 := ⟨by decide +kernel, xTbl_in (List.mem_of_getElem? (i := 452) (by decide +kernel)) rfl, xTbl_in (List.mem_of_getElem? (i := 73) (by decide +kernel)) rfl⟩
theorem in_X9_fail : xIns m_X9_fail := xTbl_in (List.mem_of_getElem? (i := 451) (by decide +kernel)) rfl
theorem se_X9_fail : xSel m_X9_fail := xTbl_in (List.mem_of_getElem? (i := 4) (by decide +kernel)) rfl
theorem k_X9_take : xMOK m_X9_take := ⟨rfl, by decide, by decide +kernel⟩
theorem tg_X9_take : xTg m_X9_take 0 := ⟨by decide +kernel, xTbl_in (List.mem_of_getElem? (i := 433) (by decide +kernel)) rfl, xTbl_in (List.mem_of_getElem? (i := 73) (by decide +kernel)) rfl⟩
theorem in_X9_take : xIns m_X9_take := xTbl_in (List.mem_of_getElem? (i := 432) (by decide +kernel)) rfl
theorem se_X9_take : xSel m_X9_take := xTbl_in (List.mem_of_getElem? (i := 0) (by decide +kernel)) rfl
theorem k_X9_valueThere : xMOK m_X9_valueThere := ⟨rfl, by decide, by decide +kernel⟩
theorem tg_X9_valueThere : xTg m_X9_valueThere 0 := ⟨by decide +kernel, xTbl_in (List.mem_of_getElem? (i := 448) (by decide +kernel)) rfl, xTbl_in (List.mem_of_getElem? (i := 73) (by decide +kernel)) rfl⟩
theorem in_X9_valueThere : xIns m_X9_valueThere := xTbl_in (List.mem_of_getElem? (i := 447) (by decide +kernel)) rfl
theorem se_X9_valueThere : xSel m_X9_valueThere := xTbl_in (List.mem_of_getElem? (i := 3) (by decide +kernel)) rfl
theorem k_X9_behind : xMOK m_X9_behind := ⟨rfl, by decide, by decide +kernel⟩
theorem tg_X9_behind : xTg m_X9_behind 3 := ⟨by decide +kernel, xTbl_in (List.mem_of_getElem? (i := 437) (by decide +kernel)) rfl, xTbl_in (List.mem_of_getElem? (i := 73) (by decide +kernel)) rfl⟩
theorem in_X9_behind : xIns m_X9_behind := xTbl_in (List.mem_of_getElem? (i := 436) (by decide +kernel)) rfl
theorem se_X9_behind : xSel m_X9_behind := xTbl_in (List.mem_of_getElem? (i := 1) (by decide +kernel)) rfl
theorem k_X9_byteAt : xMOK m_X9_byteAt := ⟨rfl, by decide, by decide +kernel⟩
theorem tg_X9_byteAt : xTg m_X9_byteAt 1 := ⟨by decide +kernel, xTbl_in (List.mem_of_getElem? (i := 441) (by decide +kernel)) rfl, xTbl_in (List.mem_of_getElem? (i := 73) (by decide +kernel)) rfl⟩
theorem in_X9_byteAt : xIns m_X9_byteAt := xTbl_in (List.mem_of_getElem? (i := 440) (by decide +kernel)) rfl
theorem se_X9_byteAt : xSel m_X9_byteAt := xTbl_in (List.mem_of_getElem? (i := 2) (by decide +kernel)) rfl
theorem k_X9_wordThere : xMOK m_X9_wordThere := ⟨rfl, by decide, by decide +kernel⟩
theorem tg_X9_wordThere : xTg m_X9_wordThere 0 := ⟨by decide +kernel, xTbl_in (List.mem_of_getElem? (i := 460) (by decide +kernel)) rfl, xTbl_in (List.mem_of_getElem? (i := 73) (by decide +kernel)) rfl⟩
theorem in_X9_wordThere : xIns m_X9_wordThere := xTbl_in (List.mem_of_getElem? (i := 459) (by decide +kernel)) rfl
theorem se_X9_wordThere : xSel m_X9_wordThere := xTbl_in (List.mem_of_getElem? (i := 6) (by decide +kernel)) rfl
theorem k_X9_spells : xMOK m_X9_spells := ⟨rfl, by decide, by decide +kernel⟩
theorem tg_X9_spells : xTg m_X9_spells 1 := ⟨by decide +kernel, xTbl_in (List.mem_of_getElem? (i := 476) (by decide +kernel)) rfl, xTbl_in (List.mem_of_getElem? (i := 73) (by decide +kernel)) rfl⟩
theorem in_X9_spells : xIns m_X9_spells := xTbl_in (List.mem_of_getElem? (i := 475) (by decide +kernel)) rfl
theorem se_X9_spells : xSel m_X9_spells := xTbl_in (List.mem_of_getElem? (i := 7) (by decide +kernel)) rfl
theorem k_X9_wordOf : xMOK m_X9_wordOf := ⟨rfl, by decide, by decide +kernel⟩
theorem tg_X9_wordOf : xTg m_X9_wordOf 1 := ⟨by decide +kernel, xTbl_in (List.mem_of_getElem? (i := 463) (by decide +kernel)) rfl, xTbl_in (List.mem_of_getElem? (i := 73) (by decide +kernel)) rfl⟩
theorem sa_X9_wordOf : xSta m_X9_wordOf := xTbl_in (List.mem_of_getElem? (i := 462) (by decide +kernel)) rfl
theorem k_X10_init : xMOK m_X10_init := ⟨rfl, by decide, by decide +kernel⟩
theorem tg_X10_init : xTg m_X10_init 0 := ⟨by decide +kernel, xTbl_in (List.mem_of_getElem? (i := 89) (by decide +kernel)) rfl, xTbl_in (List.mem_of_getElem? (i := 67) (by decide +kernel)) rfl⟩
theorem in_X10_init : xIns m_X10_init := xTbl_in (List.mem_of_getElem? (i := 88) (by decide +kernel)) rfl
theorem k_X10_feed : xMOK m_X10_feed := ⟨rfl, by decide, by decide +kernel⟩
theorem tg_X10_feed : xTg m_X10_feed 1 := ⟨by decide +kernel, xTbl_in (List.mem_of_getElem? (i := 412) (by decide +kernel)) rfl, xTbl_in (List.mem_of_getElem? (i := 67) (by decide +kernel)) rfl⟩
theorem in_X10_feed : xIns m_X10_feed := xTbl_in (List.mem_of_getElem? (i := 410) (by decide +kernel)) rfl
theorem se_X10_feed : xSel m_X10_feed := xTbl_in (List.mem_of_getElem? (i := 411) (by decide +kernel)) rfl
theorem k_X10_end : xMOK m_X10_end := ⟨rfl, by decide, by decide +kernel⟩
theorem tg_X10_end : xTg m_X10_end 1 := ⟨by decide +kernel, xTbl_in (List.mem_of_getElem? (i := 420) (by decide +kernel)) rfl, xTbl_in (List.mem_of_getElem? (i := 67) (by decide +kernel)) rfl⟩
theorem in_X10_end : xIns m_X10_end := xTbl_in (List.mem_of_getElem? (i := 418) (by decide +kernel)) rfl
theorem se_X10_end : xSel m_X10_end := xTbl_in (List.mem_of_getElem? (i := 419) (by decide +kernel)) rfl
theorem k_X10_text : xMOK m_X10_text := ⟨rfl, by decide, by decide +kernel⟩
theorem tg_X10_text : xTg m_X10_text 0 := ⟨by decide +kernel, xTbl_in (List.mem_of_getElem? (i := 424) (by decide +kernel)) rfl, xTbl_in (List.mem_of_getElem? (i := 67) (by decide +kernel)) rfl⟩
theorem in_X10_text : xIns m_X10_text := xTbl_in (List.mem_of_getElem? (i := 422) (by decide +kernel)) rfl
theorem se_X10_text : xSel m_X10_text := xTbl_in (List.mem_of_getElem? (i := 423) (by decide +kernel)) rfl
theorem k_X10_fault : xMOK m_X10_fault := ⟨rfl, by decide, by decide +kernel⟩
theorem tg_X10_fault : xTg m_X10_fault 0 := ⟨by decide +kernel, xTbl_in (List.mem_of_getElem? (i := 611) (by decide +kernel)) rfl, xTbl_in (List.mem_of_getElem? (i := 67) (by decide +kernel)) rfl⟩
theorem in_X10_fault : xIns m_X10_fault := xTbl_in (List.mem_of_getElem? (i := 609) (by decide +kernel)) rfl
theorem se_X10_fault : xSel m_X10_fault := xTbl_in (List.mem_of_getElem? (i := 610) (by decide +kernel)) rfl
theorem k_X10_rule : xMOK m_X10_rule := ⟨rfl, by decide, by decide +kernel⟩
theorem tg_X10_rule : xTg m_X10_rule 1 := ⟨by decide +kernel, xTbl_in (List.mem_of_getElem? (i := 615) (by decide +kernel)) rfl, xTbl_in (List.mem_of_getElem? (i := 67) (by decide +kernel)) rfl⟩
theorem in_X10_rule : xIns m_X10_rule := xTbl_in (List.mem_of_getElem? (i := 613) (by decide +kernel)) rfl
theorem se_X10_rule : xSel m_X10_rule := xTbl_in (List.mem_of_getElem? (i := 614) (by decide +kernel)) rfl
theorem k_X10_judge : xMOK m_X10_judge := ⟨rfl, by decide, by decide +kernel⟩
theorem tg_X10_judge : xTg m_X10_judge 2 := ⟨by decide +kernel, xTbl_in (List.mem_of_getElem? (i := 635) (by decide +kernel)) rfl, xTbl_in (List.mem_of_getElem? (i := 67) (by decide +kernel)) rfl⟩
theorem in_X10_judge : xIns m_X10_judge := xTbl_in (List.mem_of_getElem? (i := 633) (by decide +kernel)) rfl
theorem se_X10_judge : xSel m_X10_judge := xTbl_in (List.mem_of_getElem? (i := 634) (by decide +kernel)) rfl
theorem k_X10_suit : xMOK m_X10_suit := ⟨rfl, by decide, by decide +kernel⟩
theorem tg_X10_suit : xTg m_X10_suit 2 := ⟨by decide +kernel, xTbl_in (List.mem_of_getElem? (i := 644) (by decide +kernel)) rfl, xTbl_in (List.mem_of_getElem? (i := 67) (by decide +kernel)) rfl⟩
theorem in_X10_suit : xIns m_X10_suit := xTbl_in (List.mem_of_getElem? (i := 642) (by decide +kernel)) rfl
theorem se_X10_suit : xSel m_X10_suit := xTbl_in (List.mem_of_getElem? (i := 643) (by decide +kernel)) rfl
theorem k_X10_tenth : xMOK m_X10_tenth := ⟨rfl, by decide, by decide +kernel⟩
theorem tg_X10_tenth : xTg m_X10_tenth 2 := ⟨by decide +kernel, xTbl_in (List.mem_of_getElem? (i := 649) (by decide +kernel)) rfl, xTbl_in (List.mem_of_getElem? (i := 67) (by decide +kernel)) rfl⟩
theorem in_X10_tenth : xIns m_X10_tenth := xTbl_in (List.mem_of_getElem? (i := 647) (by decide +kernel)) rfl
theorem se_X10_tenth : xSel m_X10_tenth := xTbl_in (List.mem_of_getElem? (i := 648) (by decide +kernel)) rfl
theorem k_X10_alter : xMOK m_X10_alter := ⟨rfl, by decide, by decide +kernel⟩
theorem tg_X10_alter : xTg m_X10_alter 3 := ⟨by decide +kernel, xTbl_in (List.mem_of_getElem? (i := 657) (by decide +kernel)) rfl, xTbl_in (List.mem_of_getElem? (i := 67) (by decide +kernel)) rfl⟩
theorem in_X10_alter : xIns m_X10_alter := xTbl_in (List.mem_of_getElem? (i := 655) (by decide +kernel)) rfl
theorem se_X10_alter : xSel m_X10_alter := xTbl_in (List.mem_of_getElem? (i := 656) (by decide +kernel)) rfl
theorem k_X10_amend : xMOK m_X10_amend := ⟨rfl, by decide, by decide +kernel⟩
theorem tg_X10_amend : xTg m_X10_amend 3 := ⟨by decide +kernel, xTbl_in (List.mem_of_getElem? (i := 661) (by decide +kernel)) rfl, xTbl_in (List.mem_of_getElem? (i := 67) (by decide +kernel)) rfl⟩
theorem in_X10_amend : xIns m_X10_amend := xTbl_in (List.mem_of_getElem? (i := 659) (by decide +kernel)) rfl
theorem se_X10_amend : xSel m_X10_amend := xTbl_in (List.mem_of_getElem? (i := 660) (by decide +kernel)) rfl
theorem k_X10_crime : xMOK m_X10_crime := ⟨rfl, by decide, by decide +kernel⟩
theorem tg_X10_crime : xTg m_X10_crime 1 := ⟨by decide +kernel, xTbl_in (List.mem_of_getElem? (i := 675) (by decide +kernel)) rfl, xTbl_in (List.mem_of_getElem? (i := 67) (by decide +kernel)) rfl⟩
theorem in_X10_crime : xIns m_X10_crime := xTbl_in (List.mem_of_getElem? (i := 673) (by decide +kernel)) rfl
theorem se_X10_crime : xSel m_X10_crime := xTbl_in (List.mem_of_getElem? (i := 674) (by decide +kernel)) rfl
theorem k_X10_can : xMOK m_X10_can := ⟨rfl, by decide, by decide +kernel⟩
theorem tg_X10_can : xTg m_X10_can 2 := ⟨by decide +kernel, xTbl_in (List.mem_of_getElem? (i := 679) (by decide +kernel)) rfl, xTbl_in (List.mem_of_getElem? (i := 67) (by decide +kernel)) rfl⟩
theorem in_X10_can : xIns m_X10_can := xTbl_in (List.mem_of_getElem? (i := 677) (by decide +kernel)) rfl
theorem se_X10_can : xSel m_X10_can := xTbl_in (List.mem_of_getElem? (i := 678) (by decide +kernel)) rfl
theorem k_X10_give : xMOK m_X10_give := ⟨rfl, by decide, by decide +kernel⟩
theorem tg_X10_give : xTg m_X10_give 3 := ⟨by decide +kernel, xTbl_in (List.mem_of_getElem? (i := 692) (by decide +kernel)) rfl, xTbl_in (List.mem_of_getElem? (i := 67) (by decide +kernel)) rfl⟩
theorem in_X10_give : xIns m_X10_give := xTbl_in (List.mem_of_getElem? (i := 690) (by decide +kernel)) rfl
theorem se_X10_give : xSel m_X10_give := xTbl_in (List.mem_of_getElem? (i := 691) (by decide +kernel)) rfl
theorem k_X10_appeal : xMOK m_X10_appeal := ⟨rfl, by decide, by decide +kernel⟩
theorem tg_X10_appeal : xTg m_X10_appeal 1 := ⟨by decide +kernel, xTbl_in (List.mem_of_getElem? (i := 715) (by decide +kernel)) rfl, xTbl_in (List.mem_of_getElem? (i := 67) (by decide +kernel)) rfl⟩
theorem in_X10_appeal : xIns m_X10_appeal := xTbl_in (List.mem_of_getElem? (i := 713) (by decide +kernel)) rfl
theorem se_X10_appeal : xSel m_X10_appeal := xTbl_in (List.mem_of_getElem? (i := 714) (by decide +kernel)) rfl
theorem k_X10_days : xMOK m_X10_days := ⟨rfl, by decide, by decide +kernel⟩
theorem tg_X10_days : xTg m_X10_days 1 := ⟨by decide +kernel, xTbl_in (List.mem_of_getElem? (i := 734) (by decide +kernel)) rfl, xTbl_in (List.mem_of_getElem? (i := 67) (by decide +kernel)) rfl⟩
theorem in_X10_days : xIns m_X10_days := xTbl_in (List.mem_of_getElem? (i := 732) (by decide +kernel)) rfl
theorem se_X10_days : xSel m_X10_days := xTbl_in (List.mem_of_getElem? (i := 733) (by decide +kernel)) rfl
theorem k_X10_docket : xMOK m_X10_docket := ⟨rfl, by decide, by decide +kernel⟩
theorem tg_X10_docket : xTg m_X10_docket 2 := ⟨by decide +kernel, xTbl_in (List.mem_of_getElem? (i := 743) (by decide +kernel)) rfl, xTbl_in (List.mem_of_getElem? (i := 67) (by decide +kernel)) rfl⟩
theorem in_X10_docket : xIns m_X10_docket := xTbl_in (List.mem_of_getElem? (i := 741) (by decide +kernel)) rfl
theorem se_X10_docket : xSel m_X10_docket := xTbl_in (List.mem_of_getElem? (i := 742) (by decide +kernel)) rfl
theorem k_X10_hears : xMOK m_X10_hears := ⟨rfl, by decide, by decide +kernel⟩
theorem tg_X10_hears : xTg m_X10_hears 2 := ⟨by decide +kernel, xTbl_in (List.mem_of_getElem? (i := 795) (by decide +kernel)) rfl, xTbl_in (List.mem_of_getElem? (i := 67) (by decide +kernel)) rfl⟩
theorem in_X10_hears : xIns m_X10_hears := xTbl_in (List.mem_of_getElem? (i := 793) (by decide +kernel)) rfl
theorem se_X10_hears : xSel m_X10_hears := xTbl_in (List.mem_of_getElem? (i := 794) (by decide +kernel)) rfl
theorem k_X10_best : xMOK m_X10_best := ⟨rfl, by decide, by decide +kernel⟩
theorem tg_X10_best : xTg m_X10_best 1 := ⟨by decide +kernel, xTbl_in (List.mem_of_getElem? (i := 799) (by decide +kernel)) rfl, xTbl_in (List.mem_of_getElem? (i := 67) (by decide +kernel)) rfl⟩
theorem in_X10_best : xIns m_X10_best := xTbl_in (List.mem_of_getElem? (i := 797) (by decide +kernel)) rfl
theorem se_X10_best : xSel m_X10_best := xTbl_in (List.mem_of_getElem? (i := 798) (by decide +kernel)) rfl
theorem k_X10_deter : xMOK m_X10_deter := ⟨rfl, by decide, by decide +kernel⟩
theorem tg_X10_deter : xTg m_X10_deter 2 := ⟨by decide +kernel, xTbl_in (List.mem_of_getElem? (i := 823) (by decide +kernel)) rfl, xTbl_in (List.mem_of_getElem? (i := 67) (by decide +kernel)) rfl⟩
theorem in_X10_deter : xIns m_X10_deter := xTbl_in (List.mem_of_getElem? (i := 821) (by decide +kernel)) rfl
theorem se_X10_deter : xSel m_X10_deter := xTbl_in (List.mem_of_getElem? (i := 822) (by decide +kernel)) rfl
theorem k_X10_order : xMOK m_X10_order := ⟨rfl, by decide, by decide +kernel⟩
theorem tg_X10_order : xTg m_X10_order 2 := ⟨by decide +kernel, xTbl_in (List.mem_of_getElem? (i := 828) (by decide +kernel)) rfl, xTbl_in (List.mem_of_getElem? (i := 67) (by decide +kernel)) rfl⟩
theorem in_X10_order : xIns m_X10_order := xTbl_in (List.mem_of_getElem? (i := 826) (by decide +kernel)) rfl
theorem se_X10_order : xSel m_X10_order := xTbl_in (List.mem_of_getElem? (i := 827) (by decide +kernel)) rfl
theorem k_X10_spare : xMOK m_X10_spare := ⟨rfl, by decide, by decide +kernel⟩
theorem tg_X10_spare : xTg m_X10_spare 1 := ⟨by decide +kernel, xTbl_in (List.mem_of_getElem? (i := 846) (by decide +kernel)) rfl, xTbl_in (List.mem_of_getElem? (i := 67) (by decide +kernel)) rfl⟩
theorem in_X10_spare : xIns m_X10_spare := xTbl_in (List.mem_of_getElem? (i := 844) (by decide +kernel)) rfl
theorem se_X10_spare : xSel m_X10_spare := xTbl_in (List.mem_of_getElem? (i := 845) (by decide +kernel)) rfl
theorem k_X10_hopeless : xMOK m_X10_hopeless := ⟨rfl, by decide, by decide +kernel⟩
theorem tg_X10_hopeless : xTg m_X10_hopeless 0 := ⟨by decide +kernel, xTbl_in (List.mem_of_getElem? (i := 851) (by decide +kernel)) rfl, xTbl_in (List.mem_of_getElem? (i := 67) (by decide +kernel)) rfl⟩
theorem in_X10_hopeless : xIns m_X10_hopeless := xTbl_in (List.mem_of_getElem? (i := 849) (by decide +kernel)) rfl
theorem se_X10_hopeless : xSel m_X10_hopeless := xTbl_in (List.mem_of_getElem? (i := 850) (by decide +kernel)) rfl
theorem k_X10_mean : xMOK m_X10_mean := ⟨rfl, by decide, by decide +kernel⟩
theorem tg_X10_mean : xTg m_X10_mean 2 := ⟨by decide +kernel, xTbl_in (List.mem_of_getElem? (i := 859) (by decide +kernel)) rfl, xTbl_in (List.mem_of_getElem? (i := 67) (by decide +kernel)) rfl⟩
theorem in_X10_mean : xIns m_X10_mean := xTbl_in (List.mem_of_getElem? (i := 857) (by decide +kernel)) rfl
theorem se_X10_mean : xSel m_X10_mean := xTbl_in (List.mem_of_getElem? (i := 858) (by decide +kernel)) rfl
theorem k_X10_luck : xMOK m_X10_luck := ⟨rfl, by decide, by decide +kernel⟩
theorem tg_X10_luck : xTg m_X10_luck 3 := ⟨by decide +kernel, xTbl_in (List.mem_of_getElem? (i := 878) (by decide +kernel)) rfl, xTbl_in (List.mem_of_getElem? (i := 67) (by decide +kernel)) rfl⟩
theorem in_X10_luck : xIns m_X10_luck := xTbl_in (List.mem_of_getElem? (i := 876) (by decide +kernel)) rfl
theorem se_X10_luck : xSel m_X10_luck := xTbl_in (List.mem_of_getElem? (i := 877) (by decide +kernel)) rfl
theorem k_X10_see : xMOK m_X10_see := ⟨rfl, by decide, by decide +kernel⟩
theorem tg_X10_see : xTg m_X10_see 3 := ⟨by decide +kernel, xTbl_in (List.mem_of_getElem? (i := 882) (by decide +kernel)) rfl, xTbl_in (List.mem_of_getElem? (i := 67) (by decide +kernel)) rfl⟩
theorem in_X10_see : xIns m_X10_see := xTbl_in (List.mem_of_getElem? (i := 880) (by decide +kernel)) rfl
theorem se_X10_see : xSel m_X10_see := xTbl_in (List.mem_of_getElem? (i := 881) (by decide +kernel)) rfl
theorem k_X10_forget : xMOK m_X10_forget := ⟨rfl, by decide, by decide +kernel⟩
theorem tg_X10_forget : xTg m_X10_forget 1 := ⟨by decide +kernel, xTbl_in (List.mem_of_getElem? (i := 890) (by decide +kernel)) rfl, xTbl_in (List.mem_of_getElem? (i := 67) (by decide +kernel)) rfl⟩
theorem in_X10_forget : xIns m_X10_forget := xTbl_in (List.mem_of_getElem? (i := 888) (by decide +kernel)) rfl
theorem se_X10_forget : xSel m_X10_forget := xTbl_in (List.mem_of_getElem? (i := 889) (by decide +kernel)) rfl
theorem k_X10_kinds : xMOK m_X10_kinds := ⟨rfl, by decide, by decide +kernel⟩
theorem tg_X10_kinds : xTg m_X10_kinds 1 := ⟨by decide +kernel, xTbl_in (List.mem_of_getElem? (i := 894) (by decide +kernel)) rfl, xTbl_in (List.mem_of_getElem? (i := 67) (by decide +kernel)) rfl⟩
theorem in_X10_kinds : xIns m_X10_kinds := xTbl_in (List.mem_of_getElem? (i := 892) (by decide +kernel)) rfl
theorem se_X10_kinds : xSel m_X10_kinds := xTbl_in (List.mem_of_getElem? (i := 893) (by decide +kernel)) rfl
theorem k_X10_terms : xMOK m_X10_terms := ⟨rfl, by decide, by decide +kernel⟩
theorem tg_X10_terms : xTg m_X10_terms 2 := ⟨by decide +kernel, xTbl_in (List.mem_of_getElem? (i := 910) (by decide +kernel)) rfl, xTbl_in (List.mem_of_getElem? (i := 67) (by decide +kernel)) rfl⟩
theorem in_X10_terms : xIns m_X10_terms := xTbl_in (List.mem_of_getElem? (i := 908) (by decide +kernel)) rfl
theorem se_X10_terms : xSel m_X10_terms := xTbl_in (List.mem_of_getElem? (i := 909) (by decide +kernel)) rfl
theorem k_X10_ask : xMOK m_X10_ask := ⟨rfl, by decide, by decide +kernel⟩
theorem tg_X10_ask : xTg m_X10_ask 2 := ⟨by decide +kernel, xTbl_in (List.mem_of_getElem? (i := 932) (by decide +kernel)) rfl, xTbl_in (List.mem_of_getElem? (i := 67) (by decide +kernel)) rfl⟩
theorem in_X10_ask : xIns m_X10_ask := xTbl_in (List.mem_of_getElem? (i := 930) (by decide +kernel)) rfl
theorem se_X10_ask : xSel m_X10_ask := xTbl_in (List.mem_of_getElem? (i := 931) (by decide +kernel)) rfl
theorem k_X10_drift : xMOK m_X10_drift := ⟨rfl, by decide, by decide +kernel⟩
theorem tg_X10_drift : xTg m_X10_drift 3 := ⟨by decide +kernel, xTbl_in (List.mem_of_getElem? (i := 939) (by decide +kernel)) rfl, xTbl_in (List.mem_of_getElem? (i := 67) (by decide +kernel)) rfl⟩
theorem in_X10_drift : xIns m_X10_drift := xTbl_in (List.mem_of_getElem? (i := 937) (by decide +kernel)) rfl
theorem se_X10_drift : xSel m_X10_drift := xTbl_in (List.mem_of_getElem? (i := 938) (by decide +kernel)) rfl
theorem k_X10_keep : xMOK m_X10_keep := ⟨rfl, by decide, by decide +kernel⟩
theorem tg_X10_keep : xTg m_X10_keep 1 := ⟨by decide +kernel, xTbl_in (List.mem_of_getElem? (i := 945) (by decide +kernel)) rfl, xTbl_in (List.mem_of_getElem? (i := 67) (by decide +kernel)) rfl⟩
theorem in_X10_keep : xIns m_X10_keep := xTbl_in (List.mem_of_getElem? (i := 943) (by decide +kernel)) rfl
theorem se_X10_keep : xSel m_X10_keep := xTbl_in (List.mem_of_getElem? (i := 944) (by decide +kernel)) rfl
theorem k_X10_back : xMOK m_X10_back := ⟨rfl, by decide, by decide +kernel⟩
theorem tg_X10_back : xTg m_X10_back 1 := ⟨by decide +kernel, xTbl_in (List.mem_of_getElem? (i := 949) (by decide +kernel)) rfl, xTbl_in (List.mem_of_getElem? (i := 67) (by decide +kernel)) rfl⟩
theorem in_X10_back : xIns m_X10_back := xTbl_in (List.mem_of_getElem? (i := 947) (by decide +kernel)) rfl
theorem se_X10_back : xSel m_X10_back := xTbl_in (List.mem_of_getElem? (i := 948) (by decide +kernel)) rfl
theorem k_X10_sheet : xMOK m_X10_sheet := ⟨rfl, by decide, by decide +kernel⟩
theorem tg_X10_sheet : xTg m_X10_sheet 3 := ⟨by decide +kernel, xTbl_in (List.mem_of_getElem? (i := 953) (by decide +kernel)) rfl, xTbl_in (List.mem_of_getElem? (i := 67) (by decide +kernel)) rfl⟩
theorem in_X10_sheet : xIns m_X10_sheet := xTbl_in (List.mem_of_getElem? (i := 951) (by decide +kernel)) rfl
theorem se_X10_sheet : xSel m_X10_sheet := xTbl_in (List.mem_of_getElem? (i := 952) (by decide +kernel)) rfl
theorem k_X10_lay : xMOK m_X10_lay := ⟨rfl, by decide, by decide +kernel⟩
theorem tg_X10_lay : xTg m_X10_lay 3 := ⟨by decide +kernel, xTbl_in (List.mem_of_getElem? (i := 965) (by decide +kernel)) rfl, xTbl_in (List.mem_of_getElem? (i := 67) (by decide +kernel)) rfl⟩
theorem in_X10_lay : xIns m_X10_lay := xTbl_in (List.mem_of_getElem? (i := 963) (by decide +kernel)) rfl
theorem se_X10_lay : xSel m_X10_lay := xTbl_in (List.mem_of_getElem? (i := 964) (by decide +kernel)) rfl
theorem k_X10_read : xMOK m_X10_read := ⟨rfl, by decide, by decide +kernel⟩
theorem tg_X10_read : xTg m_X10_read 4 := ⟨by decide +kernel, xTbl_in (List.mem_of_getElem? (i := 973) (by decide +kernel)) rfl, xTbl_in (List.mem_of_getElem? (i := 67) (by decide +kernel)) rfl⟩
theorem in_X10_read : xIns m_X10_read := xTbl_in (List.mem_of_getElem? (i := 971) (by decide +kernel)) rfl
theorem se_X10_read : xSel m_X10_read := xTbl_in (List.mem_of_getElem? (i := 972) (by decide +kernel)) rfl
theorem k_X10_torn : xMOK m_X10_torn := ⟨rfl, by decide, by decide +kernel⟩
theorem tg_X10_torn : xTg m_X10_torn 0 := ⟨by decide +kernel, xTbl_in (List.mem_of_getElem? (i := 987) (by decide +kernel)) rfl, xTbl_in (List.mem_of_getElem? (i := 67) (by decide +kernel)) rfl⟩
theorem in_X10_torn : xIns m_X10_torn := xTbl_in (List.mem_of_getElem? (i := 985) (by decide +kernel)) rfl
theorem se_X10_torn : xSel m_X10_torn := xTbl_in (List.mem_of_getElem? (i := 986) (by decide +kernel)) rfl
theorem k_X10_count : xMOK m_X10_count := ⟨rfl, by decide, by decide +kernel⟩
theorem tg_X10_count : xTg m_X10_count 1 := ⟨by decide +kernel, xTbl_in (List.mem_of_getElem? (i := 991) (by decide +kernel)) rfl, xTbl_in (List.mem_of_getElem? (i := 67) (by decide +kernel)) rfl⟩
theorem in_X10_count : xIns m_X10_count := xTbl_in (List.mem_of_getElem? (i := 989) (by decide +kernel)) rfl
theorem se_X10_count : xSel m_X10_count := xTbl_in (List.mem_of_getElem? (i := 990) (by decide +kernel)) rfl
theorem k_X10_within : xMOK m_X10_within := ⟨rfl, by decide, by decide +kernel⟩
theorem tg_X10_within : xTg m_X10_within 3 := ⟨by decide +kernel, xTbl_in (List.mem_of_getElem? (i := 444) (by decide +kernel)) rfl, xTbl_in (List.mem_of_getElem? (i := 67) (by decide +kernel)) rfl⟩
theorem sa_X10_within : xSta m_X10_within := xTbl_in (List.mem_of_getElem? (i := 443) (by decide +kernel)) rfl
theorem k_X10_tenthBy : xMOK m_X10_tenthBy := ⟨rfl, by decide, by decide +kernel⟩
theorem tg_X10_tenthBy : xTg m_X10_tenthBy 2 := ⟨by decide +kernel, xTbl_in (List.mem_of_getElem? (i := 653) (by decide +kernel)) rfl, xTbl_in (List.mem_of_getElem? (i := 67) (by decide +kernel)) rfl⟩
theorem sa_X10_tenthBy : xSta m_X10_tenthBy := xTbl_in (List.mem_of_getElem? (i := 652) (by decide +kernel)) rfl
theorem k_X10_lessCrime : xMOK m_X10_lessCrime := ⟨rfl, by decide, by decide +kernel⟩
theorem tg_X10_lessCrime : xTg m_X10_lessCrime 2 := ⟨by decide +kernel, xTbl_in (List.mem_of_getElem? (i := 708) (by decide +kernel)) rfl, xTbl_in (List.mem_of_getElem? (i := 67) (by decide +kernel)) rfl⟩
theorem sa_X10_lessCrime : xSta m_X10_lessCrime := xTbl_in (List.mem_of_getElem? (i := 707) (by decide +kernel)) rfl
theorem k_X10_moreCrime : xMOK m_X10_moreCrime := ⟨rfl, by decide, by decide +kernel⟩
theorem tg_X10_moreCrime : xTg m_X10_moreCrime 2 := ⟨by decide +kernel, xTbl_in (List.mem_of_getElem? (i := 729) (by decide +kernel)) rfl, xTbl_in (List.mem_of_getElem? (i := 67) (by decide +kernel)) rfl⟩
theorem sa_X10_moreCrime : xSta m_X10_moreCrime := xTbl_in (List.mem_of_getElem? (i := 728) (by decide +kernel)) rfl
theorem k_X10_sentenceAsAsked : xMOK m_X10_sentenceAsAsked := ⟨rfl, by decide, by decide +kernel⟩
theorem tg_X10_sentenceAsAsked : xTg m_X10_sentenceAsAsked 4 := ⟨by decide +kernel, xTbl_in (List.mem_of_getElem? (i := 695) (by decide +kernel)) rfl, xTbl_in (List.mem_of_getElem? (i := 67) (by decide +kernel)) rfl⟩
theorem sa_X10_sentenceAsAsked : xSta m_X10_sentenceAsAsked := xTbl_in (List.mem_of_getElem? (i := 694) (by decide +kernel)) rfl
theorem k_X10_seatIn : xMOK m_X10_seatIn := ⟨rfl, by decide, by decide +kernel⟩
theorem tg_X10_seatIn : xTg m_X10_seatIn 3 := ⟨by decide +kernel, xTbl_in (List.mem_of_getElem? (i := 840) (by decide +kernel)) rfl, xTbl_in (List.mem_of_getElem? (i := 67) (by decide +kernel)) rfl⟩
theorem sa_X10_seatIn : xSta m_X10_seatIn := xTbl_in (List.mem_of_getElem? (i := 839) (by decide +kernel)) rfl
theorem k_X10_oddsOf : xMOK m_X10_oddsOf := ⟨rfl, by decide, by decide +kernel⟩
theorem tg_X10_oddsOf : xTg m_X10_oddsOf 3 := ⟨by decide +kernel, xTbl_in (List.mem_of_getElem? (i := 863) (by decide +kernel)) rfl, xTbl_in (List.mem_of_getElem? (i := 67) (by decide +kernel)) rfl⟩
theorem sa_X10_oddsOf : xSta m_X10_oddsOf := xTbl_in (List.mem_of_getElem? (i := 862) (by decide +kernel)) rfl
theorem k_X10_oddsInAll : xMOK m_X10_oddsInAll := ⟨rfl, by decide, by decide +kernel⟩
theorem tg_X10_oddsInAll : xTg m_X10_oddsInAll 1 := ⟨by decide +kernel, xTbl_in (List.mem_of_getElem? (i := 870) (by decide +kernel)) rfl, xTbl_in (List.mem_of_getElem? (i := 67) (by decide +kernel)) rfl⟩
theorem sa_X10_oddsInAll : xSta m_X10_oddsInAll := xTbl_in (List.mem_of_getElem? (i := 869) (by decide +kernel)) rfl
theorem k_X10_lowest : xMOK m_X10_lowest := ⟨rfl, by decide, by decide +kernel⟩
theorem tg_X10_lowest : xTg m_X10_lowest 3 := ⟨by decide +kernel, xTbl_in (List.mem_of_getElem? (i := 874) (by decide +kernel)) rfl, xTbl_in (List.mem_of_getElem? (i := 67) (by decide +kernel)) rfl⟩
theorem sa_X10_lowest : xSta m_X10_lowest := xTbl_in (List.mem_of_getElem? (i := 873) (by decide +kernel)) rfl
theorem k_X10_mostLeft : xMOK m_X10_mostLeft := ⟨rfl, by decide, by decide +kernel⟩
theorem tg_X10_mostLeft : xTg m_X10_mostLeft 2 := ⟨by decide +kernel, xTbl_in (List.mem_of_getElem? (i := 935) (by decide +kernel)) rfl, xTbl_in (List.mem_of_getElem? (i := 67) (by decide +kernel)) rfl⟩
theorem sa_X10_mostLeft : xSta m_X10_mostLeft := xTbl_in (List.mem_of_getElem? (i := 934) (by decide +kernel)) rfl
theorem k_X10_imageAt : xMOK m_X10_imageAt := ⟨rfl, by decide, by decide +kernel⟩
theorem tg_X10_imageAt : xTg m_X10_imageAt 1 := ⟨by decide +kernel, xTbl_in (List.mem_of_getElem? (i := 607) (by decide +kernel)) rfl, xTbl_in (List.mem_of_getElem? (i := 67) (by decide +kernel)) rfl⟩
theorem in_X10_imageAt : xIns m_X10_imageAt := xTbl_in (List.mem_of_getElem? (i := 606) (by decide +kernel)) rfl
theorem se_X10_imageAt : xSel m_X10_imageAt := xTbl_in (List.mem_of_getElem? (i := 13) (by decide +kernel)) rfl
theorem k_X10_sheetAt : xMOK m_X10_sheetAt := ⟨rfl, by decide, by decide +kernel⟩
theorem tg_X10_sheetAt : xTg m_X10_sheetAt 1 := ⟨by decide +kernel, xTbl_in (List.mem_of_getElem? (i := 957) (by decide +kernel)) rfl, xTbl_in (List.mem_of_getElem? (i := 67) (by decide +kernel)) rfl⟩
theorem in_X10_sheetAt : xIns m_X10_sheetAt := xTbl_in (List.mem_of_getElem? (i := 956) (by decide +kernel)) rfl
theorem se_X10_sheetAt : xSel m_X10_sheetAt := xTbl_in (List.mem_of_getElem? (i := 17) (by decide +kernel)) rfl
theorem k_X10_dropImages : xMOK m_X10_dropImages := ⟨rfl, by decide, by decide +kernel⟩
theorem tg_X10_dropImages : xTg m_X10_dropImages 0 := ⟨by decide +kernel, xTbl_in (List.mem_of_getElem? (i := 603) (by decide +kernel)) rfl, xTbl_in (List.mem_of_getElem? (i := 67) (by decide +kernel)) rfl⟩
theorem in_X10_dropImages : xIns m_X10_dropImages := xTbl_in (List.mem_of_getElem? (i := 602) (by decide +kernel)) rfl
theorem se_X10_dropImages : xSel m_X10_dropImages := xTbl_in (List.mem_of_getElem? (i := 12) (by decide +kernel)) rfl
theorem k_X10_imagesThere : xMOK m_X10_imagesThere := ⟨rfl, by decide, by decide +kernel⟩
theorem tg_X10_imagesThere : xTg m_X10_imagesThere 0 := ⟨by decide +kernel, xTbl_in (List.mem_of_getElem? (i := 995) (by decide +kernel)) rfl, xTbl_in (List.mem_of_getElem? (i := 67) (by decide +kernel)) rfl⟩
theorem in_X10_imagesThere : xIns m_X10_imagesThere := xTbl_in (List.mem_of_getElem? (i := 994) (by decide +kernel)) rfl
theorem se_X10_imagesThere : xSel m_X10_imagesThere := xTbl_in (List.mem_of_getElem? (i := 18) (by decide +kernel)) rfl
theorem k_X10_cellsOfFirst : xMOK m_X10_cellsOfFirst := ⟨rfl, by decide, by decide +kernel⟩
theorem tg_X10_cellsOfFirst : xTg m_X10_cellsOfFirst 0 := ⟨by decide +kernel, xTbl_in (List.mem_of_getElem? (i := 999) (by decide +kernel)) rfl, xTbl_in (List.mem_of_getElem? (i := 67) (by decide +kernel)) rfl⟩
theorem in_X10_cellsOfFirst : xIns m_X10_cellsOfFirst := xTbl_in (List.mem_of_getElem? (i := 998) (by decide +kernel)) rfl
theorem se_X10_cellsOfFirst : xSel m_X10_cellsOfFirst := xTbl_in (List.mem_of_getElem? (i := 19) (by decide +kernel)) rfl
theorem k_X11_init : xMOK m_X11_init := ⟨rfl, by decide, by decide +kernel⟩
theorem tg_X11_init : xTg m_X11_init 0 := ⟨by decide +kernel, xTbl_in (List.mem_of_getElem? (i := 1008) (by decide +kernel)) rfl, xTbl_in (List.mem_of_getElem? (i := 78) (by decide +kernel)) rfl⟩
theorem in_X11_init : xIns m_X11_init := xTbl_in (List.mem_of_getElem? (i := 1007) (by decide +kernel)) rfl
theorem k_X11_in : xMOK m_X11_in := ⟨rfl, by decide, by decide +kernel⟩
theorem tg_X11_in : xTg m_X11_in 3 := ⟨by decide +kernel, xTbl_in (List.mem_of_getElem? (i := 1111) (by decide +kernel)) rfl, xTbl_in (List.mem_of_getElem? (i := 78) (by decide +kernel)) rfl⟩
theorem sa_X11_in : xSta m_X11_in := xTbl_in (List.mem_of_getElem? (i := 1110) (by decide +kernel)) rfl
theorem k_X11_flag : xMOK m_X11_flag := ⟨rfl, by decide, by decide +kernel⟩
theorem tg_X11_flag : xTg m_X11_flag 1 := ⟨by decide +kernel, xTbl_in (List.mem_of_getElem? (i := 1190) (by decide +kernel)) rfl, xTbl_in (List.mem_of_getElem? (i := 78) (by decide +kernel)) rfl⟩
theorem sa_X11_flag : xSta m_X11_flag := xTbl_in (List.mem_of_getElem? (i := 1189) (by decide +kernel)) rfl
theorem k_X11_firstDraft : xMOK m_X11_firstDraft := ⟨rfl, by decide, by decide +kernel⟩
theorem tg_X11_firstDraft : xTg m_X11_firstDraft 0 := ⟨by decide +kernel, xTbl_in (List.mem_of_getElem? (i := 1013) (by decide +kernel)) rfl, xTbl_in (List.mem_of_getElem? (i := 78) (by decide +kernel)) rfl⟩
theorem in_X11_firstDraft : xIns m_X11_firstDraft := xTbl_in (List.mem_of_getElem? (i := 1012) (by decide +kernel)) rfl
theorem se_X11_firstDraft : xSel m_X11_firstDraft := xTbl_in (List.mem_of_getElem? (i := 20) (by decide +kernel)) rfl
theorem k_X11_keepDraft : xMOK m_X11_keepDraft := ⟨rfl, by decide, by decide +kernel⟩
theorem tg_X11_keepDraft : xTg m_X11_keepDraft 0 := ⟨by decide +kernel, xTbl_in (List.mem_of_getElem? (i := 1017) (by decide +kernel)) rfl, xTbl_in (List.mem_of_getElem? (i := 78) (by decide +kernel)) rfl⟩
theorem in_X11_keepDraft : xIns m_X11_keepDraft := xTbl_in (List.mem_of_getElem? (i := 1016) (by decide +kernel)) rfl
theorem se_X11_keepDraft : xSel m_X11_keepDraft := xTbl_in (List.mem_of_getElem? (i := 21) (by decide +kernel)) rfl
theorem k_X11_feed : xMOK m_X11_feed := ⟨rfl, by decide, by decide +kernel⟩
theorem tg_X11_feed : xTg m_X11_feed 1 := ⟨by decide +kernel, xTbl_in (List.mem_of_getElem? (i := 1107) (by decide +kernel)) rfl, xTbl_in (List.mem_of_getElem? (i := 78) (by decide +kernel)) rfl⟩
theorem in_X11_feed : xIns m_X11_feed := xTbl_in (List.mem_of_getElem? (i := 1105) (by decide +kernel)) rfl
theorem se_X11_feed : xSel m_X11_feed := xTbl_in (List.mem_of_getElem? (i := 1106) (by decide +kernel)) rfl
theorem k_X11_end : xMOK m_X11_end := ⟨rfl, by decide, by decide +kernel⟩
theorem tg_X11_end : xTg m_X11_end 1 := ⟨by decide +kernel, xTbl_in (List.mem_of_getElem? (i := 1115) (by decide +kernel)) rfl, xTbl_in (List.mem_of_getElem? (i := 78) (by decide +kernel)) rfl⟩
theorem in_X11_end : xIns m_X11_end := xTbl_in (List.mem_of_getElem? (i := 1113) (by decide +kernel)) rfl
theorem se_X11_end : xSel m_X11_end := xTbl_in (List.mem_of_getElem? (i := 1114) (by decide +kernel)) rfl
theorem k_X11_needs : xMOK m_X11_needs := ⟨rfl, by decide, by decide +kernel⟩
theorem tg_X11_needs : xTg m_X11_needs 2 := ⟨by decide +kernel, xTbl_in (List.mem_of_getElem? (i := 1135) (by decide +kernel)) rfl, xTbl_in (List.mem_of_getElem? (i := 78) (by decide +kernel)) rfl⟩
theorem in_X11_needs : xIns m_X11_needs := xTbl_in (List.mem_of_getElem? (i := 1134) (by decide +kernel)) rfl
theorem se_X11_needs : xSel m_X11_needs := xTbl_in (List.mem_of_getElem? (i := 24) (by decide +kernel)) rfl
theorem k_X11_byteAt : xMOK m_X11_byteAt := ⟨rfl, by decide, by decide +kernel⟩
theorem tg_X11_byteAt : xTg m_X11_byteAt 1 := ⟨by decide +kernel, xTbl_in (List.mem_of_getElem? (i := 1127) (by decide +kernel)) rfl, xTbl_in (List.mem_of_getElem? (i := 78) (by decide +kernel)) rfl⟩
theorem in_X11_byteAt : xIns m_X11_byteAt := xTbl_in (List.mem_of_getElem? (i := 1126) (by decide +kernel)) rfl
theorem se_X11_byteAt : xSel m_X11_byteAt := xTbl_in (List.mem_of_getElem? (i := 23) (by decide +kernel)) rfl
theorem k_X11_is : xMOK m_X11_is := ⟨rfl, by decide, by decide +kernel⟩
theorem tg_X11_is : xTg m_X11_is 4 := ⟨by decide +kernel, xTbl_in (List.mem_of_getElem? (i := 1147) (by decide +kernel)) rfl, xTbl_in (List.mem_of_getElem? (i := 78) (by decide +kernel)) rfl⟩
theorem in_X11_is : xIns m_X11_is := xTbl_in (List.mem_of_getElem? (i := 1146) (by decide +kernel)) rfl
theorem se_X11_is : xSel m_X11_is := xTbl_in (List.mem_of_getElem? (i := 27) (by decide +kernel)) rfl
theorem k_X11_ends : xMOK m_X11_ends := ⟨rfl, by decide, by decide +kernel⟩
theorem tg_X11_ends : xTg m_X11_ends 3 := ⟨by decide +kernel, xTbl_in (List.mem_of_getElem? (i := 1151) (by decide +kernel)) rfl, xTbl_in (List.mem_of_getElem? (i := 78) (by decide +kernel)) rfl⟩
theorem in_X11_ends : xIns m_X11_ends := xTbl_in (List.mem_of_getElem? (i := 1150) (by decide +kernel)) rfl
theorem se_X11_ends : xSel m_X11_ends := xTbl_in (List.mem_of_getElem? (i := 28) (by decide +kernel)) rfl
theorem k_X11_judgeNow : xMOK m_X11_judgeNow := ⟨rfl, by decide, by decide +kernel⟩
theorem tg_X11_judgeNow : xTg m_X11_judgeNow 0 := ⟨by decide +kernel, xTbl_in (List.mem_of_getElem? (i := 1155) (by decide +kernel)) rfl, xTbl_in (List.mem_of_getElem? (i := 78) (by decide +kernel)) rfl⟩
theorem in_X11_judgeNow : xIns m_X11_judgeNow := xTbl_in (List.mem_of_getElem? (i := 1154) (by decide +kernel)) rfl
theorem se_X11_judgeNow : xSel m_X11_judgeNow := xTbl_in (List.mem_of_getElem? (i := 29) (by decide +kernel)) rfl
theorem k_X11_lineNow : xMOK m_X11_lineNow := ⟨rfl, by decide, by decide +kernel⟩
theorem tg_X11_lineNow : xTg m_X11_lineNow 0 := ⟨by decide +kernel, xTbl_in (List.mem_of_getElem? (i := 1143) (by decide +kernel)) rfl, xTbl_in (List.mem_of_getElem? (i := 78) (by decide +kernel)) rfl⟩
theorem in_X11_lineNow : xIns m_X11_lineNow := xTbl_in (List.mem_of_getElem? (i := 1142) (by decide +kernel)) rfl
theorem se_X11_lineNow : xSel m_X11_lineNow := xTbl_in (List.mem_of_getElem? (i := 26) (by decide +kernel)) rfl
theorem k_X11_takes : xMOK m_X11_takes := ⟨rfl, by decide, by decide +kernel⟩
theorem tg_X11_takes : xTg m_X11_takes 0 := ⟨by decide +kernel, xTbl_in (List.mem_of_getElem? (i := 1123) (by decide +kernel)) rfl, xTbl_in (List.mem_of_getElem? (i := 78) (by decide +kernel)) rfl⟩
theorem in_X11_takes : xIns m_X11_takes := xTbl_in (List.mem_of_getElem? (i := 1122) (by decide +kernel)) rfl
theorem se_X11_takes : xSel m_X11_takes := xTbl_in (List.mem_of_getElem? (i := 22) (by decide +kernel)) rfl
theorem k_X11_readNumber : xMOK m_X11_readNumber := ⟨rfl, by decide, by decide +kernel⟩
theorem tg_X11_readNumber : xTg m_X11_readNumber 2 := ⟨by decide +kernel, xTbl_in (List.mem_of_getElem? (i := 1163) (by decide +kernel)) rfl, xTbl_in (List.mem_of_getElem? (i := 78) (by decide +kernel)) rfl⟩
theorem in_X11_readNumber : xIns m_X11_readNumber := xTbl_in (List.mem_of_getElem? (i := 1162) (by decide +kernel)) rfl
theorem se_X11_readNumber : xSel m_X11_readNumber := xTbl_in (List.mem_of_getElem? (i := 31) (by decide +kernel)) rfl
theorem k_X11_readCase : xMOK m_X11_readCase := ⟨rfl, by decide, by decide +kernel⟩
theorem tg_X11_readCase : xTg m_X11_readCase 1 := ⟨by decide +kernel, xTbl_in (List.mem_of_getElem? (i := 1167) (by decide +kernel)) rfl, xTbl_in (List.mem_of_getElem? (i := 78) (by decide +kernel)) rfl⟩
theorem in_X11_readCase : xIns m_X11_readCase := xTbl_in (List.mem_of_getElem? (i := 1166) (by decide +kernel)) rfl
theorem se_X11_readCase : xSel m_X11_readCase := xTbl_in (List.mem_of_getElem? (i := 32) (by decide +kernel)) rfl
theorem k_X11_readLineOf : xMOK m_X11_readLineOf := ⟨rfl, by decide, by decide +kernel⟩
theorem tg_X11_readLineOf : xTg m_X11_readLineOf 1 := ⟨by decide +kernel, xTbl_in (List.mem_of_getElem? (i := 1159) (by decide +kernel)) rfl, xTbl_in (List.mem_of_getElem? (i := 78) (by decide +kernel)) rfl⟩
theorem in_X11_readLineOf : xIns m_X11_readLineOf := xTbl_in (List.mem_of_getElem? (i := 1158) (by decide +kernel)) rfl
theorem se_X11_readLineOf : xSel m_X11_readLineOf := xTbl_in (List.mem_of_getElem? (i := 30) (by decide +kernel)) rfl
theorem k_X11_readLine : xMOK m_X11_readLine := ⟨rfl, by decide, by decide +kernel⟩
theorem tg_X11_readLine : xTg m_X11_readLine 0 := ⟨by decide +kernel, xTbl_in (List.mem_of_getElem? (i := 1139) (by decide +kernel)) rfl, xTbl_in (List.mem_of_getElem? (i := 78) (by decide +kernel)) rfl⟩
theorem in_X11_readLine : xIns m_X11_readLine := xTbl_in (List.mem_of_getElem? (i := 1138) (by decide +kernel)) rfl
theorem se_X11_readLine : xSel m_X11_readLine := xTbl_in (List.mem_of_getElem? (i := 25) (by decide +kernel)) rfl
theorem k_X11_text : xMOK m_X11_text := ⟨rfl, by decide, by decide +kernel⟩
theorem tg_X11_text : xTg m_X11_text 0 := ⟨by decide +kernel, xTbl_in (List.mem_of_getElem? (i := 1119) (by decide +kernel)) rfl, xTbl_in (List.mem_of_getElem? (i := 78) (by decide +kernel)) rfl⟩
theorem in_X11_text : xIns m_X11_text := xTbl_in (List.mem_of_getElem? (i := 1117) (by decide +kernel)) rfl
theorem se_X11_text : xSel m_X11_text := xTbl_in (List.mem_of_getElem? (i := 1118) (by decide +kernel)) rfl
theorem k_X11_fault : xMOK m_X11_fault := ⟨rfl, by decide, by decide +kernel⟩
theorem tg_X11_fault : xTg m_X11_fault 0 := ⟨by decide +kernel, xTbl_in (List.mem_of_getElem? (i := 1171) (by decide +kernel)) rfl, xTbl_in (List.mem_of_getElem? (i := 78) (by decide +kernel)) rfl⟩
theorem in_X11_fault : xIns m_X11_fault := xTbl_in (List.mem_of_getElem? (i := 1169) (by decide +kernel)) rfl
theorem se_X11_fault : xSel m_X11_fault := xTbl_in (List.mem_of_getElem? (i := 1170) (by decide +kernel)) rfl
theorem k_X11_isJudge : xMOK m_X11_isJudge := ⟨rfl, by decide, by decide +kernel⟩
theorem tg_X11_isJudge : xTg m_X11_isJudge 1 := ⟨by decide +kernel, xTbl_in (List.mem_of_getElem? (i := 1206) (by decide +kernel)) rfl, xTbl_in (List.mem_of_getElem? (i := 78) (by decide +kernel)) rfl⟩
theorem in_X11_isJudge : xIns m_X11_isJudge := xTbl_in (List.mem_of_getElem? (i := 1205) (by decide +kernel)) rfl
theorem se_X11_isJudge : xSel m_X11_isJudge := xTbl_in (List.mem_of_getElem? (i := 38) (by decide +kernel)) rfl
theorem k_X11_isCase : xMOK m_X11_isCase := ⟨rfl, by decide, by decide +kernel⟩
theorem tg_X11_isCase : xTg m_X11_isCase 1 := ⟨by decide +kernel, xTbl_in (List.mem_of_getElem? (i := 1215) (by decide +kernel)) rfl, xTbl_in (List.mem_of_getElem? (i := 78) (by decide +kernel)) rfl⟩
theorem in_X11_isCase : xIns m_X11_isCase := xTbl_in (List.mem_of_getElem? (i := 1214) (by decide +kernel)) rfl
theorem se_X11_isCase : xSel m_X11_isCase := xTbl_in (List.mem_of_getElem? (i := 39) (by decide +kernel)) rfl
theorem k_X11_isPart : xMOK m_X11_isPart := ⟨rfl, by decide, by decide +kernel⟩
theorem tg_X11_isPart : xTg m_X11_isPart 1 := ⟨by decide +kernel, xTbl_in (List.mem_of_getElem? (i := 1336) (by decide +kernel)) rfl, xTbl_in (List.mem_of_getElem? (i := 78) (by decide +kernel)) rfl⟩
theorem sa_X11_isPart : xSta m_X11_isPart := xTbl_in (List.mem_of_getElem? (i := 1335) (by decide +kernel)) rfl
theorem k_X11_starts : xMOK m_X11_starts := ⟨rfl, by decide, by decide +kernel⟩
theorem tg_X11_starts : xTg m_X11_starts 0 := ⟨by decide +kernel, xTbl_in (List.mem_of_getElem? (i := 1179) (by decide +kernel)) rfl, xTbl_in (List.mem_of_getElem? (i := 78) (by decide +kernel)) rfl⟩
theorem in_X11_starts : xIns m_X11_starts := xTbl_in (List.mem_of_getElem? (i := 1178) (by decide +kernel)) rfl
theorem se_X11_starts : xSel m_X11_starts := xTbl_in (List.mem_of_getElem? (i := 33) (by decide +kernel)) rfl
theorem k_X11_settles : xMOK m_X11_settles := ⟨rfl, by decide, by decide +kernel⟩
theorem tg_X11_settles : xTg m_X11_settles 0 := ⟨by decide +kernel, xTbl_in (List.mem_of_getElem? (i := 1282) (by decide +kernel)) rfl, xTbl_in (List.mem_of_getElem? (i := 78) (by decide +kernel)) rfl⟩
theorem in_X11_settles : xIns m_X11_settles := xTbl_in (List.mem_of_getElem? (i := 1281) (by decide +kernel)) rfl
theorem se_X11_settles : xSel m_X11_settles := xTbl_in (List.mem_of_getElem? (i := 48) (by decide +kernel)) rfl
theorem k_X11_of : xMOK m_X11_of := ⟨rfl, by decide, by decide +kernel⟩
theorem tg_X11_of : xTg m_X11_of 2 := ⟨by decide +kernel, xTbl_in (List.mem_of_getElem? (i := 1198) (by decide +kernel)) rfl, xTbl_in (List.mem_of_getElem? (i := 78) (by decide +kernel)) rfl⟩
theorem in_X11_of : xIns m_X11_of := xTbl_in (List.mem_of_getElem? (i := 1197) (by decide +kernel)) rfl
theorem se_X11_of : xSel m_X11_of := xTbl_in (List.mem_of_getElem? (i := 37) (by decide +kernel)) rfl
theorem k_X11_becomesOf : xMOK m_X11_becomesOf := ⟨rfl, by decide, by decide +kernel⟩
theorem tg_X11_becomesOf : xTg m_X11_becomesOf 3 := ⟨by decide +kernel, xTbl_in (List.mem_of_getElem? (i := 1274) (by decide +kernel)) rfl, xTbl_in (List.mem_of_getElem? (i := 78) (by decide +kernel)) rfl⟩
theorem in_X11_becomesOf : xIns m_X11_becomesOf := xTbl_in (List.mem_of_getElem? (i := 1273) (by decide +kernel)) rfl
theorem se_X11_becomesOf : xSel m_X11_becomesOf := xTbl_in (List.mem_of_getElem? (i := 46) (by decide +kernel)) rfl
theorem k_X11_ofCase : xMOK m_X11_ofCase := ⟨rfl, by decide, by decide +kernel⟩
theorem tg_X11_ofCase : xTg m_X11_ofCase 2 := ⟨by decide +kernel, xTbl_in (List.mem_of_getElem? (i := 1183) (by decide +kernel)) rfl, xTbl_in (List.mem_of_getElem? (i := 78) (by decide +kernel)) rfl⟩
theorem in_X11_ofCase : xIns m_X11_ofCase := xTbl_in (List.mem_of_getElem? (i := 1182) (by decide +kernel)) rfl
theorem se_X11_ofCase : xSel m_X11_ofCase := xTbl_in (List.mem_of_getElem? (i := 34) (by decide +kernel)) rfl
theorem k_X11_becomesCase : xMOK m_X11_becomesCase := ⟨rfl, by decide, by decide +kernel⟩
theorem tg_X11_becomesCase : xTg m_X11_becomesCase 3 := ⟨by decide +kernel, xTbl_in (List.mem_of_getElem? (i := 1278) (by decide +kernel)) rfl, xTbl_in (List.mem_of_getElem? (i := 78) (by decide +kernel)) rfl⟩
theorem in_X11_becomesCase : xIns m_X11_becomesCase := xTbl_in (List.mem_of_getElem? (i := 1277) (by decide +kernel)) rfl
theorem se_X11_becomesCase : xSel m_X11_becomesCase := xTbl_in (List.mem_of_getElem? (i := 47) (by decide +kernel)) rfl
theorem k_X11_lesser : xMOK m_X11_lesser := ⟨rfl, by decide, by decide +kernel⟩
theorem tg_X11_lesser : xTg m_X11_lesser 2 := ⟨by decide +kernel, xTbl_in (List.mem_of_getElem? (i := 1293) (by decide +kernel)) rfl, xTbl_in (List.mem_of_getElem? (i := 78) (by decide +kernel)) rfl⟩
theorem sa_X11_lesser : xSta m_X11_lesser := xTbl_in (List.mem_of_getElem? (i := 1292) (by decide +kernel)) rfl
theorem k_X11_tenthBy : xMOK m_X11_tenthBy := ⟨rfl, by decide, by decide +kernel⟩
theorem tg_X11_tenthBy : xTg m_X11_tenthBy 2 := ⟨by decide +kernel, xTbl_in (List.mem_of_getElem? (i := 1223) (by decide +kernel)) rfl, xTbl_in (List.mem_of_getElem? (i := 78) (by decide +kernel)) rfl⟩
theorem sa_X11_tenthBy : xSta m_X11_tenthBy := xTbl_in (List.mem_of_getElem? (i := 1222) (by decide +kernel)) rfl
theorem k_X11_canBear : xMOK m_X11_canBear := ⟨rfl, by decide, by decide +kernel⟩
theorem tg_X11_canBear : xTg m_X11_canBear 3 := ⟨by decide +kernel, xTbl_in (List.mem_of_getElem? (i := 1262) (by decide +kernel)) rfl, xTbl_in (List.mem_of_getElem? (i := 78) (by decide +kernel)) rfl⟩
theorem in_X11_canBear : xIns m_X11_canBear := xTbl_in (List.mem_of_getElem? (i := 1261) (by decide +kernel)) rfl
theorem se_X11_canBear : xSel m_X11_canBear := xTbl_in (List.mem_of_getElem? (i := 44) (by decide +kernel)) rfl
theorem k_X11_canHear : xMOK m_X11_canHear := ⟨rfl, by decide, by decide +kernel⟩
theorem tg_X11_canHear : xTg m_X11_canHear 3 := ⟨by decide +kernel, xTbl_in (List.mem_of_getElem? (i := 1258) (by decide +kernel)) rfl, xTbl_in (List.mem_of_getElem? (i := 78) (by decide +kernel)) rfl⟩
theorem in_X11_canHear : xIns m_X11_canHear := xTbl_in (List.mem_of_getElem? (i := 1257) (by decide +kernel)) rfl
theorem se_X11_canHear : xSel m_X11_canHear := xTbl_in (List.mem_of_getElem? (i := 43) (by decide +kernel)) rfl
theorem k_X11_sentences : xMOK m_X11_sentences := ⟨rfl, by decide, by decide +kernel⟩
theorem tg_X11_sentences : xTg m_X11_sentences 3 := ⟨by decide +kernel, xTbl_in (List.mem_of_getElem? (i := 1270) (by decide +kernel)) rfl, xTbl_in (List.mem_of_getElem? (i := 78) (by decide +kernel)) rfl⟩
theorem in_X11_sentences : xIns m_X11_sentences := xTbl_in (List.mem_of_getElem? (i := 1269) (by decide +kernel)) rfl
theorem se_X11_sentences : xSel m_X11_sentences := xTbl_in (List.mem_of_getElem? (i := 45) (by decide +kernel)) rfl
theorem k_X11_appeals : xMOK m_X11_appeals := ⟨rfl, by decide, by decide +kernel⟩
theorem tg_X11_appeals : xTg m_X11_appeals 1 := ⟨by decide +kernel, xTbl_in (List.mem_of_getElem? (i := 1290) (by decide +kernel)) rfl, xTbl_in (List.mem_of_getElem? (i := 78) (by decide +kernel)) rfl⟩
theorem in_X11_appeals : xIns m_X11_appeals := xTbl_in (List.mem_of_getElem? (i := 1289) (by decide +kernel)) rfl
theorem se_X11_appeals : xSel m_X11_appeals := xTbl_in (List.mem_of_getElem? (i := 49) (by decide +kernel)) rfl
theorem k_X11_dayGoes : xMOK m_X11_dayGoes := ⟨rfl, by decide, by decide +kernel⟩
theorem tg_X11_dayGoes : xTg m_X11_dayGoes 0 := ⟨by decide +kernel, xTbl_in (List.mem_of_getElem? (i := 1302) (by decide +kernel)) rfl, xTbl_in (List.mem_of_getElem? (i := 78) (by decide +kernel)) rfl⟩
theorem in_X11_dayGoes : xIns m_X11_dayGoes := xTbl_in (List.mem_of_getElem? (i := 1301) (by decide +kernel)) rfl
theorem se_X11_dayGoes : xSel m_X11_dayGoes := xTbl_in (List.mem_of_getElem? (i := 50) (by decide +kernel)) rfl
theorem k_X11_heard : xMOK m_X11_heard := ⟨rfl, by decide, by decide +kernel⟩
theorem tg_X11_heard : xTg m_X11_heard 0 := ⟨by decide +kernel, xTbl_in (List.mem_of_getElem? (i := 1187) (by decide +kernel)) rfl, xTbl_in (List.mem_of_getElem? (i := 78) (by decide +kernel)) rfl⟩
theorem in_X11_heard : xIns m_X11_heard := xTbl_in (List.mem_of_getElem? (i := 1186) (by decide +kernel)) rfl
theorem se_X11_heard : xSel m_X11_heard := xTbl_in (List.mem_of_getElem? (i := 35) (by decide +kernel)) rfl
theorem k_X11_away : xMOK m_X11_away := ⟨rfl, by decide, by decide +kernel⟩
theorem tg_X11_away : xTg m_X11_away 0 := ⟨by decide +kernel, xTbl_in (List.mem_of_getElem? (i := 1194) (by decide +kernel)) rfl, xTbl_in (List.mem_of_getElem? (i := 78) (by decide +kernel)) rfl⟩
theorem in_X11_away : xIns m_X11_away := xTbl_in (List.mem_of_getElem? (i := 1193) (by decide +kernel)) rfl
theorem se_X11_away : xSel m_X11_away := xTbl_in (List.mem_of_getElem? (i := 36) (by decide +kernel)) rfl
theorem k_X11_firstFor : xMOK m_X11_firstFor := ⟨rfl, by decide, by decide +kernel⟩
theorem tg_X11_firstFor : xTg m_X11_firstFor 1 := ⟨by decide +kernel, xTbl_in (List.mem_of_getElem? (i := 1314) (by decide +kernel)) rfl, xTbl_in (List.mem_of_getElem? (i := 78) (by decide +kernel)) rfl⟩
theorem in_X11_firstFor : xIns m_X11_firstFor := xTbl_in (List.mem_of_getElem? (i := 1313) (by decide +kernel)) rfl
theorem se_X11_firstFor : xSel m_X11_firstFor := xTbl_in (List.mem_of_getElem? (i := 52) (by decide +kernel)) rfl
theorem k_X11_docketGoes : xMOK m_X11_docketGoes := ⟨rfl, by decide, by decide +kernel⟩
theorem tg_X11_docketGoes : xTg m_X11_docketGoes 0 := ⟨by decide +kernel, xTbl_in (List.mem_of_getElem? (i := 1310) (by decide +kernel)) rfl, xTbl_in (List.mem_of_getElem? (i := 78) (by decide +kernel)) rfl⟩
theorem in_X11_docketGoes : xIns m_X11_docketGoes := xTbl_in (List.mem_of_getElem? (i := 1309) (by decide +kernel)) rfl
theorem se_X11_docketGoes : xSel m_X11_docketGoes := xTbl_in (List.mem_of_getElem? (i := 51) (by decide +kernel)) rfl
theorem k_X11_bitsOf : xMOK m_X11_bitsOf := ⟨rfl, by decide, by decide +kernel⟩
theorem tg_X11_bitsOf : xTg m_X11_bitsOf 1 := ⟨by decide +kernel, xTbl_in (List.mem_of_getElem? (i := 1329) (by decide +kernel)) rfl, xTbl_in (List.mem_of_getElem? (i := 78) (by decide +kernel)) rfl⟩
theorem sa_X11_bitsOf : xSta m_X11_bitsOf := xTbl_in (List.mem_of_getElem? (i := 1328) (by decide +kernel)) rfl
theorem k_X11_docketHears : xMOK m_X11_docketHears := ⟨rfl, by decide, by decide +kernel⟩
theorem tg_X11_docketHears : xTg m_X11_docketHears 1 := ⟨by decide +kernel, xTbl_in (List.mem_of_getElem? (i := 1326) (by decide +kernel)) rfl, xTbl_in (List.mem_of_getElem? (i := 78) (by decide +kernel)) rfl⟩
theorem in_X11_docketHears : xIns m_X11_docketHears := xTbl_in (List.mem_of_getElem? (i := 1325) (by decide +kernel)) rfl
theorem se_X11_docketHears : xSel m_X11_docketHears := xTbl_in (List.mem_of_getElem? (i := 54) (by decide +kernel)) rfl
theorem k_X11_allOf : xMOK m_X11_allOf := ⟨rfl, by decide, by decide +kernel⟩
theorem tg_X11_allOf : xTg m_X11_allOf 1 := ⟨by decide +kernel, xTbl_in (List.mem_of_getElem? (i := 1318) (by decide +kernel)) rfl, xTbl_in (List.mem_of_getElem? (i := 78) (by decide +kernel)) rfl⟩
theorem in_X11_allOf : xIns m_X11_allOf := xTbl_in (List.mem_of_getElem? (i := 1317) (by decide +kernel)) rfl
theorem se_X11_allOf : xSel m_X11_allOf := xTbl_in (List.mem_of_getElem? (i := 53) (by decide +kernel)) rfl
theorem k_X11_rule : xMOK m_X11_rule := ⟨rfl, by decide, by decide +kernel⟩
theorem tg_X11_rule : xTg m_X11_rule 1 := ⟨by decide +kernel, xTbl_in (List.mem_of_getElem? (i := 1175) (by decide +kernel)) rfl, xTbl_in (List.mem_of_getElem? (i := 78) (by decide +kernel)) rfl⟩
theorem in_X11_rule : xIns m_X11_rule := xTbl_in (List.mem_of_getElem? (i := 1173) (by decide +kernel)) rfl
theorem se_X11_rule : xSel m_X11_rule := xTbl_in (List.mem_of_getElem? (i := 1174) (by decide +kernel)) rfl
theorem k_X11_judge : xMOK m_X11_judge := ⟨rfl, by decide, by decide +kernel⟩
theorem tg_X11_judge : xTg m_X11_judge 2 := ⟨by decide +kernel, xTbl_in (List.mem_of_getElem? (i := 1202) (by decide +kernel)) rfl, xTbl_in (List.mem_of_getElem? (i := 78) (by decide +kernel)) rfl⟩
theorem in_X11_judge : xIns m_X11_judge := xTbl_in (List.mem_of_getElem? (i := 1200) (by decide +kernel)) rfl
theorem se_X11_judge : xSel m_X11_judge := xTbl_in (List.mem_of_getElem? (i := 1201) (by decide +kernel)) rfl
theorem k_X11_suit : xMOK m_X11_suit := ⟨rfl, by decide, by decide +kernel⟩
theorem tg_X11_suit : xTg m_X11_suit 2 := ⟨by decide +kernel, xTbl_in (List.mem_of_getElem? (i := 1211) (by decide +kernel)) rfl, xTbl_in (List.mem_of_getElem? (i := 78) (by decide +kernel)) rfl⟩
theorem in_X11_suit : xIns m_X11_suit := xTbl_in (List.mem_of_getElem? (i := 1209) (by decide +kernel)) rfl
theorem se_X11_suit : xSel m_X11_suit := xTbl_in (List.mem_of_getElem? (i := 1210) (by decide +kernel)) rfl
theorem k_X11_tenth : xMOK m_X11_tenth := ⟨rfl, by decide, by decide +kernel⟩
theorem tg_X11_tenth : xTg m_X11_tenth 2 := ⟨by decide +kernel, xTbl_in (List.mem_of_getElem? (i := 1219) (by decide +kernel)) rfl, xTbl_in (List.mem_of_getElem? (i := 78) (by decide +kernel)) rfl⟩
theorem in_X11_tenth : xIns m_X11_tenth := xTbl_in (List.mem_of_getElem? (i := 1217) (by decide +kernel)) rfl
theorem se_X11_tenth : xSel m_X11_tenth := xTbl_in (List.mem_of_getElem? (i := 1218) (by decide +kernel)) rfl
theorem k_X11_becomes : xMOK m_X11_becomes := ⟨rfl, by decide, by decide +kernel⟩
theorem tg_X11_becomes : xTg m_X11_becomes 2 := ⟨by decide +kernel, xTbl_in (List.mem_of_getElem? (i := 1234) (by decide +kernel)) rfl, xTbl_in (List.mem_of_getElem? (i := 78) (by decide +kernel)) rfl⟩
theorem in_X11_becomes : xIns m_X11_becomes := xTbl_in (List.mem_of_getElem? (i := 1233) (by decide +kernel)) rfl
theorem se_X11_becomes : xSel m_X11_becomes := xTbl_in (List.mem_of_getElem? (i := 40) (by decide +kernel)) rfl
theorem k_X11_alter : xMOK m_X11_alter := ⟨rfl, by decide, by decide +kernel⟩
theorem tg_X11_alter : xTg m_X11_alter 3 := ⟨by decide +kernel, xTbl_in (List.mem_of_getElem? (i := 1227) (by decide +kernel)) rfl, xTbl_in (List.mem_of_getElem? (i := 78) (by decide +kernel)) rfl⟩
theorem in_X11_alter : xIns m_X11_alter := xTbl_in (List.mem_of_getElem? (i := 1225) (by decide +kernel)) rfl
theorem se_X11_alter : xSel m_X11_alter := xTbl_in (List.mem_of_getElem? (i := 1226) (by decide +kernel)) rfl
theorem k_X11_isHeard : xMOK m_X11_isHeard := ⟨rfl, by decide, by decide +kernel⟩
theorem tg_X11_isHeard : xTg m_X11_isHeard 1 := ⟨by decide +kernel, xTbl_in (List.mem_of_getElem? (i := 1242) (by decide +kernel)) rfl, xTbl_in (List.mem_of_getElem? (i := 78) (by decide +kernel)) rfl⟩
theorem in_X11_isHeard : xIns m_X11_isHeard := xTbl_in (List.mem_of_getElem? (i := 1241) (by decide +kernel)) rfl
theorem se_X11_isHeard : xSel m_X11_isHeard := xTbl_in (List.mem_of_getElem? (i := 41) (by decide +kernel)) rfl
theorem k_X11_amend : xMOK m_X11_amend := ⟨rfl, by decide, by decide +kernel⟩
theorem tg_X11_amend : xTg m_X11_amend 3 := ⟨by decide +kernel, xTbl_in (List.mem_of_getElem? (i := 1238) (by decide +kernel)) rfl, xTbl_in (List.mem_of_getElem? (i := 78) (by decide +kernel)) rfl⟩
theorem in_X11_amend : xIns m_X11_amend := xTbl_in (List.mem_of_getElem? (i := 1236) (by decide +kernel)) rfl
theorem se_X11_amend : xSel m_X11_amend := xTbl_in (List.mem_of_getElem? (i := 1237) (by decide +kernel)) rfl
theorem k_X11_crime : xMOK m_X11_crime := ⟨rfl, by decide, by decide +kernel⟩
theorem tg_X11_crime : xTg m_X11_crime 1 := ⟨by decide +kernel, xTbl_in (List.mem_of_getElem? (i := 1246) (by decide +kernel)) rfl, xTbl_in (List.mem_of_getElem? (i := 78) (by decide +kernel)) rfl⟩
theorem in_X11_crime : xIns m_X11_crime := xTbl_in (List.mem_of_getElem? (i := 1244) (by decide +kernel)) rfl
theorem se_X11_crime : xSel m_X11_crime := xTbl_in (List.mem_of_getElem? (i := 1245) (by decide +kernel)) rfl
theorem k_X11_isTerm : xMOK m_X11_isTerm := ⟨rfl, by decide, by decide +kernel⟩
theorem tg_X11_isTerm : xTg m_X11_isTerm 2 := ⟨by decide +kernel, xTbl_in (List.mem_of_getElem? (i := 1254) (by decide +kernel)) rfl, xTbl_in (List.mem_of_getElem? (i := 78) (by decide +kernel)) rfl⟩
theorem in_X11_isTerm : xIns m_X11_isTerm := xTbl_in (List.mem_of_getElem? (i := 1253) (by decide +kernel)) rfl
theorem se_X11_isTerm : xSel m_X11_isTerm := xTbl_in (List.mem_of_getElem? (i := 42) (by decide +kernel)) rfl
theorem k_X11_can : xMOK m_X11_can := ⟨rfl, by decide, by decide +kernel⟩
theorem tg_X11_can : xTg m_X11_can 2 := ⟨by decide +kernel, xTbl_in (List.mem_of_getElem? (i := 1250) (by decide +kernel)) rfl, xTbl_in (List.mem_of_getElem? (i := 78) (by decide +kernel)) rfl⟩
theorem in_X11_can : xIns m_X11_can := xTbl_in (List.mem_of_getElem? (i := 1248) (by decide +kernel)) rfl
theorem se_X11_can : xSel m_X11_can := xTbl_in (List.mem_of_getElem? (i := 1249) (by decide +kernel)) rfl
theorem k_X11_give : xMOK m_X11_give := ⟨rfl, by decide, by decide +kernel⟩
theorem tg_X11_give : xTg m_X11_give 3 := ⟨by decide +kernel, xTbl_in (List.mem_of_getElem? (i := 1266) (by decide +kernel)) rfl, xTbl_in (List.mem_of_getElem? (i := 78) (by decide +kernel)) rfl⟩
theorem in_X11_give : xIns m_X11_give := xTbl_in (List.mem_of_getElem? (i := 1264) (by decide +kernel)) rfl
theorem se_X11_give : xSel m_X11_give := xTbl_in (List.mem_of_getElem? (i := 1265) (by decide +kernel)) rfl
theorem k_X11_appeal : xMOK m_X11_appeal := ⟨rfl, by decide, by decide +kernel⟩
theorem tg_X11_appeal : xTg m_X11_appeal 1 := ⟨by decide +kernel, xTbl_in (List.mem_of_getElem? (i := 1286) (by decide +kernel)) rfl, xTbl_in (List.mem_of_getElem? (i := 78) (by decide +kernel)) rfl⟩
theorem in_X11_appeal : xIns m_X11_appeal := xTbl_in (List.mem_of_getElem? (i := 1284) (by decide +kernel)) rfl
theorem se_X11_appeal : xSel m_X11_appeal := xTbl_in (List.mem_of_getElem? (i := 1285) (by decide +kernel)) rfl
theorem k_X11_days : xMOK m_X11_days := ⟨rfl, by decide, by decide +kernel⟩
theorem tg_X11_days : xTg m_X11_days 1 := ⟨by decide +kernel, xTbl_in (List.mem_of_getElem? (i := 1297) (by decide +kernel)) rfl, xTbl_in (List.mem_of_getElem? (i := 78) (by decide +kernel)) rfl⟩
theorem in_X11_days : xIns m_X11_days := xTbl_in (List.mem_of_getElem? (i := 1295) (by decide +kernel)) rfl
theorem se_X11_days : xSel m_X11_days := xTbl_in (List.mem_of_getElem? (i := 1296) (by decide +kernel)) rfl
theorem k_X11_docket : xMOK m_X11_docket := ⟨rfl, by decide, by decide +kernel⟩
theorem tg_X11_docket : xTg m_X11_docket 2 := ⟨by decide +kernel, xTbl_in (List.mem_of_getElem? (i := 1306) (by decide +kernel)) rfl, xTbl_in (List.mem_of_getElem? (i := 78) (by decide +kernel)) rfl⟩
theorem in_X11_docket : xIns m_X11_docket := xTbl_in (List.mem_of_getElem? (i := 1304) (by decide +kernel)) rfl
theorem se_X11_docket : xSel m_X11_docket := xTbl_in (List.mem_of_getElem? (i := 1305) (by decide +kernel)) rfl
theorem k_X11_hears : xMOK m_X11_hears := ⟨rfl, by decide, by decide +kernel⟩
theorem tg_X11_hears : xTg m_X11_hears 2 := ⟨by decide +kernel, xTbl_in (List.mem_of_getElem? (i := 1322) (by decide +kernel)) rfl, xTbl_in (List.mem_of_getElem? (i := 78) (by decide +kernel)) rfl⟩
theorem in_X11_hears : xIns m_X11_hears := xTbl_in (List.mem_of_getElem? (i := 1320) (by decide +kernel)) rfl
theorem se_X11_hears : xSel m_X11_hears := xTbl_in (List.mem_of_getElem? (i := 1321) (by decide +kernel)) rfl
theorem k_X11_powerOf : xMOK m_X11_powerOf := ⟨rfl, by decide, by decide +kernel⟩
theorem tg_X11_powerOf : xTg m_X11_powerOf 2 := ⟨by decide +kernel, xTbl_in (List.mem_of_getElem? (i := 1341) (by decide +kernel)) rfl, xTbl_in (List.mem_of_getElem? (i := 78) (by decide +kernel)) rfl⟩
theorem in_X11_powerOf : xIns m_X11_powerOf := xTbl_in (List.mem_of_getElem? (i := 1340) (by decide +kernel)) rfl
theorem se_X11_powerOf : xSel m_X11_powerOf := xTbl_in (List.mem_of_getElem? (i := 55) (by decide +kernel)) rfl
theorem k_X11_caseIn : xMOK m_X11_caseIn := ⟨rfl, by decide, by decide +kernel⟩
theorem tg_X11_caseIn : xTg m_X11_caseIn 2 := ⟨by decide +kernel, xTbl_in (List.mem_of_getElem? (i := 1349) (by decide +kernel)) rfl, xTbl_in (List.mem_of_getElem? (i := 78) (by decide +kernel)) rfl⟩
theorem in_X11_caseIn : xIns m_X11_caseIn := xTbl_in (List.mem_of_getElem? (i := 1348) (by decide +kernel)) rfl
theorem se_X11_caseIn : xSel m_X11_caseIn := xTbl_in (List.mem_of_getElem? (i := 57) (by decide +kernel)) rfl
theorem k_X11_hearsBy : xMOK m_X11_hearsBy := ⟨rfl, by decide, by decide +kernel⟩
theorem tg_X11_hearsBy : xTg m_X11_hearsBy 1 := ⟨by decide +kernel, xTbl_in (List.mem_of_getElem? (i := 1345) (by decide +kernel)) rfl, xTbl_in (List.mem_of_getElem? (i := 78) (by decide +kernel)) rfl⟩
theorem in_X11_hearsBy : xIns m_X11_hearsBy := xTbl_in (List.mem_of_getElem? (i := 1344) (by decide +kernel)) rfl
theorem se_X11_hearsBy : xSel m_X11_hearsBy := xTbl_in (List.mem_of_getElem? (i := 56) (by decide +kernel)) rfl
theorem k_X11_best : xMOK m_X11_best := ⟨rfl, by decide, by decide +kernel⟩
theorem tg_X11_best : xTg m_X11_best 1 := ⟨by decide +kernel, xTbl_in (List.mem_of_getElem? (i := 1333) (by decide +kernel)) rfl, xTbl_in (List.mem_of_getElem? (i := 78) (by decide +kernel)) rfl⟩
theorem in_X11_best : xIns m_X11_best := xTbl_in (List.mem_of_getElem? (i := 1331) (by decide +kernel)) rfl
theorem se_X11_best : xSel m_X11_best := xTbl_in (List.mem_of_getElem? (i := 1332) (by decide +kernel)) rfl
theorem k_X11_deter : xMOK m_X11_deter := ⟨rfl, by decide, by decide +kernel⟩
theorem tg_X11_deter : xTg m_X11_deter 2 := ⟨by decide +kernel, xTbl_in (List.mem_of_getElem? (i := 1353) (by decide +kernel)) rfl, xTbl_in (List.mem_of_getElem? (i := 78) (by decide +kernel)) rfl⟩
theorem in_X11_deter : xIns m_X11_deter := xTbl_in (List.mem_of_getElem? (i := 1351) (by decide +kernel)) rfl
theorem se_X11_deter : xSel m_X11_deter := xTbl_in (List.mem_of_getElem? (i := 1352) (by decide +kernel)) rfl
theorem k_X11_isOrder : xMOK m_X11_isOrder := ⟨rfl, by decide, by decide +kernel⟩
theorem tg_X11_isOrder : xTg m_X11_isOrder 1 := ⟨by decide +kernel, xTbl_in (List.mem_of_getElem? (i := 1361) (by decide +kernel)) rfl, xTbl_in (List.mem_of_getElem? (i := 78) (by decide +kernel)) rfl⟩
theorem in_X11_isOrder : xIns m_X11_isOrder := xTbl_in (List.mem_of_getElem? (i := 1360) (by decide +kernel)) rfl
theorem se_X11_isOrder : xSel m_X11_isOrder := xTbl_in (List.mem_of_getElem? (i := 58) (by decide +kernel)) rfl
theorem k_X11_order : xMOK m_X11_order := ⟨rfl, by decide, by decide +kernel⟩
theorem tg_X11_order : xTg m_X11_order 2 := ⟨by decide +kernel, xTbl_in (List.mem_of_getElem? (i := 1357) (by decide +kernel)) rfl, xTbl_in (List.mem_of_getElem? (i := 78) (by decide +kernel)) rfl⟩
theorem in_X11_order : xIns m_X11_order := xTbl_in (List.mem_of_getElem? (i := 1355) (by decide +kernel)) rfl
theorem se_X11_order : xSel m_X11_order := xTbl_in (List.mem_of_getElem? (i := 1356) (by decide +kernel)) rfl
theorem k_X11_spare : xMOK m_X11_spare := ⟨rfl, by decide, by decide +kernel⟩
theorem tg_X11_spare : xTg m_X11_spare 1 := ⟨by decide +kernel, xTbl_in (List.mem_of_getElem? (i := 1365) (by decide +kernel)) rfl, xTbl_in (List.mem_of_getElem? (i := 78) (by decide +kernel)) rfl⟩
theorem in_X11_spare : xIns m_X11_spare := xTbl_in (List.mem_of_getElem? (i := 1363) (by decide +kernel)) rfl
theorem se_X11_spare : xSel m_X11_spare := xTbl_in (List.mem_of_getElem? (i := 1364) (by decide +kernel)) rfl
theorem k_X11_hopeless : xMOK m_X11_hopeless := ⟨rfl, by decide, by decide +kernel⟩
theorem tg_X11_hopeless : xTg m_X11_hopeless 0 := ⟨by decide +kernel, xTbl_in (List.mem_of_getElem? (i := 1369) (by decide +kernel)) rfl, xTbl_in (List.mem_of_getElem? (i := 78) (by decide +kernel)) rfl⟩
theorem in_X11_hopeless : xIns m_X11_hopeless := xTbl_in (List.mem_of_getElem? (i := 1367) (by decide +kernel)) rfl
theorem se_X11_hopeless : xSel m_X11_hopeless := xTbl_in (List.mem_of_getElem? (i := 1368) (by decide +kernel)) rfl
theorem k_X11_common : xMOK m_X11_common := ⟨rfl, by decide, by decide +kernel⟩
theorem tg_X11_common : xTg m_X11_common 2 := ⟨by decide +kernel, xTbl_in (List.mem_of_getElem? (i := 1385) (by decide +kernel)) rfl, xTbl_in (List.mem_of_getElem? (i := 78) (by decide +kernel)) rfl⟩
theorem sa_X11_common : xSta m_X11_common := xTbl_in (List.mem_of_getElem? (i := 1384) (by decide +kernel)) rfl
theorem k_X11_told : xMOK m_X11_told := ⟨rfl, by decide, by decide +kernel⟩
theorem tg_X11_told : xTg m_X11_told 3 := ⟨by decide +kernel, xTbl_in (List.mem_of_getElem? (i := 1382) (by decide +kernel)) rfl, xTbl_in (List.mem_of_getElem? (i := 78) (by decide +kernel)) rfl⟩
theorem sa_X11_told : xSta m_X11_told := xTbl_in (List.mem_of_getElem? (i := 1381) (by decide +kernel)) rfl
theorem k_X11_findOdds : xMOK m_X11_findOdds := ⟨rfl, by decide, by decide +kernel⟩
theorem tg_X11_findOdds : xTg m_X11_findOdds 2 := ⟨by decide +kernel, xTbl_in (List.mem_of_getElem? (i := 1379) (by decide +kernel)) rfl, xTbl_in (List.mem_of_getElem? (i := 78) (by decide +kernel)) rfl⟩
theorem in_X11_findOdds : xIns m_X11_findOdds := xTbl_in (List.mem_of_getElem? (i := 1378) (by decide +kernel)) rfl
theorem se_X11_findOdds : xSel m_X11_findOdds := xTbl_in (List.mem_of_getElem? (i := 59) (by decide +kernel)) rfl
theorem k_X11_mean : xMOK m_X11_mean := ⟨rfl, by decide, by decide +kernel⟩
theorem tg_X11_mean : xTg m_X11_mean 2 := ⟨by decide +kernel, xTbl_in (List.mem_of_getElem? (i := 1373) (by decide +kernel)) rfl, xTbl_in (List.mem_of_getElem? (i := 78) (by decide +kernel)) rfl⟩
theorem in_X11_mean : xIns m_X11_mean := xTbl_in (List.mem_of_getElem? (i := 1371) (by decide +kernel)) rfl
theorem se_X11_mean : xSel m_X11_mean := xTbl_in (List.mem_of_getElem? (i := 1372) (by decide +kernel)) rfl
theorem k_X11_luck : xMOK m_X11_luck := ⟨rfl, by decide, by decide +kernel⟩
theorem tg_X11_luck : xTg m_X11_luck 3 := ⟨by decide +kernel, xTbl_in (List.mem_of_getElem? (i := 1389) (by decide +kernel)) rfl, xTbl_in (List.mem_of_getElem? (i := 78) (by decide +kernel)) rfl⟩
theorem in_X11_luck : xIns m_X11_luck := xTbl_in (List.mem_of_getElem? (i := 1387) (by decide +kernel)) rfl
theorem se_X11_luck : xSel m_X11_luck := xTbl_in (List.mem_of_getElem? (i := 1388) (by decide +kernel)) rfl
theorem k_X11_see : xMOK m_X11_see := ⟨rfl, by decide, by decide +kernel⟩
theorem tg_X11_see : xTg m_X11_see 3 := ⟨by decide +kernel, xTbl_in (List.mem_of_getElem? (i := 1393) (by decide +kernel)) rfl, xTbl_in (List.mem_of_getElem? (i := 78) (by decide +kernel)) rfl⟩
theorem in_X11_see : xIns m_X11_see := xTbl_in (List.mem_of_getElem? (i := 1391) (by decide +kernel)) rfl
theorem se_X11_see : xSel m_X11_see := xTbl_in (List.mem_of_getElem? (i := 1392) (by decide +kernel)) rfl
theorem k_X11_forget : xMOK m_X11_forget := ⟨rfl, by decide, by decide +kernel⟩
theorem tg_X11_forget : xTg m_X11_forget 1 := ⟨by decide +kernel, xTbl_in (List.mem_of_getElem? (i := 1397) (by decide +kernel)) rfl, xTbl_in (List.mem_of_getElem? (i := 78) (by decide +kernel)) rfl⟩
theorem in_X11_forget : xIns m_X11_forget := xTbl_in (List.mem_of_getElem? (i := 1395) (by decide +kernel)) rfl
theorem se_X11_forget : xSel m_X11_forget := xTbl_in (List.mem_of_getElem? (i := 1396) (by decide +kernel)) rfl
theorem k_X11_couldBe : xMOK m_X11_couldBe := ⟨rfl, by decide, by decide +kernel⟩
theorem tg_X11_couldBe : xTg m_X11_couldBe 3 := ⟨by decide +kernel, xTbl_in (List.mem_of_getElem? (i := 1409) (by decide +kernel)) rfl, xTbl_in (List.mem_of_getElem? (i := 78) (by decide +kernel)) rfl⟩
theorem in_X11_couldBe : xIns m_X11_couldBe := xTbl_in (List.mem_of_getElem? (i := 1408) (by decide +kernel)) rfl
theorem se_X11_couldBe : xSel m_X11_couldBe := xTbl_in (List.mem_of_getElem? (i := 61) (by decide +kernel)) rfl
theorem k_X11_kindsOf : xMOK m_X11_kindsOf := ⟨rfl, by decide, by decide +kernel⟩
theorem tg_X11_kindsOf : xTg m_X11_kindsOf 1 := ⟨by decide +kernel, xTbl_in (List.mem_of_getElem? (i := 1405) (by decide +kernel)) rfl, xTbl_in (List.mem_of_getElem? (i := 78) (by decide +kernel)) rfl⟩
theorem in_X11_kindsOf : xIns m_X11_kindsOf := xTbl_in (List.mem_of_getElem? (i := 1404) (by decide +kernel)) rfl
theorem se_X11_kindsOf : xSel m_X11_kindsOf := xTbl_in (List.mem_of_getElem? (i := 60) (by decide +kernel)) rfl
theorem k_X11_kinds : xMOK m_X11_kinds := ⟨rfl, by decide, by decide +kernel⟩
theorem tg_X11_kinds : xTg m_X11_kinds 1 := ⟨by decide +kernel, xTbl_in (List.mem_of_getElem? (i := 1401) (by decide +kernel)) rfl, xTbl_in (List.mem_of_getElem? (i := 78) (by decide +kernel)) rfl⟩
theorem in_X11_kinds : xIns m_X11_kinds := xTbl_in (List.mem_of_getElem? (i := 1399) (by decide +kernel)) rfl
theorem se_X11_kinds : xSel m_X11_kinds := xTbl_in (List.mem_of_getElem? (i := 1400) (by decide +kernel)) rfl
theorem k_X11_isSo : xMOK m_X11_isSo := ⟨rfl, by decide, by decide +kernel⟩
theorem tg_X11_isSo : xTg m_X11_isSo 4 := ⟨by decide +kernel, xTbl_in (List.mem_of_getElem? (i := 1422) (by decide +kernel)) rfl, xTbl_in (List.mem_of_getElem? (i := 78) (by decide +kernel)) rfl⟩
theorem in_X11_isSo : xIns m_X11_isSo := xTbl_in (List.mem_of_getElem? (i := 1421) (by decide +kernel)) rfl
theorem se_X11_isSo : xSel m_X11_isSo := xTbl_in (List.mem_of_getElem? (i := 63) (by decide +kernel)) rfl
theorem k_X11_isTermSo : xMOK m_X11_isTermSo := ⟨rfl, by decide, by decide +kernel⟩
theorem tg_X11_isTermSo : xTg m_X11_isTermSo 2 := ⟨by decide +kernel, xTbl_in (List.mem_of_getElem? (i := 1418) (by decide +kernel)) rfl, xTbl_in (List.mem_of_getElem? (i := 78) (by decide +kernel)) rfl⟩
theorem in_X11_isTermSo : xIns m_X11_isTermSo := xTbl_in (List.mem_of_getElem? (i := 1417) (by decide +kernel)) rfl
theorem se_X11_isTermSo : xSel m_X11_isTermSo := xTbl_in (List.mem_of_getElem? (i := 62) (by decide +kernel)) rfl
theorem k_X11_isSeenIn : xMOK m_X11_isSeenIn := ⟨rfl, by decide, by decide +kernel⟩
theorem tg_X11_isSeenIn : xTg m_X11_isSeenIn 2 := ⟨by decide +kernel, xTbl_in (List.mem_of_getElem? (i := 1426) (by decide +kernel)) rfl, xTbl_in (List.mem_of_getElem? (i := 78) (by decide +kernel)) rfl⟩
theorem in_X11_isSeenIn : xIns m_X11_isSeenIn := xTbl_in (List.mem_of_getElem? (i := 1425) (by decide +kernel)) rfl
theorem se_X11_isSeenIn : xSel m_X11_isSeenIn := xTbl_in (List.mem_of_getElem? (i := 64) (by decide +kernel)) rfl
theorem k_X11_terms : xMOK m_X11_terms := ⟨rfl, by decide, by decide +kernel⟩
theorem tg_X11_terms : xTg m_X11_terms 2 := ⟨by decide +kernel, xTbl_in (List.mem_of_getElem? (i := 1413) (by decide +kernel)) rfl, xTbl_in (List.mem_of_getElem? (i := 78) (by decide +kernel)) rfl⟩
theorem in_X11_terms : xIns m_X11_terms := xTbl_in (List.mem_of_getElem? (i := 1411) (by decide +kernel)) rfl
theorem se_X11_terms : xSel m_X11_terms := xTbl_in (List.mem_of_getElem? (i := 1412) (by decide +kernel)) rfl
theorem k_X11_ask : xMOK m_X11_ask := ⟨rfl, by decide, by decide +kernel⟩
theorem tg_X11_ask : xTg m_X11_ask 2 := ⟨by decide +kernel, xTbl_in (List.mem_of_getElem? (i := 1430) (by decide +kernel)) rfl, xTbl_in (List.mem_of_getElem? (i := 78) (by decide +kernel)) rfl⟩
theorem in_X11_ask : xIns m_X11_ask := xTbl_in (List.mem_of_getElem? (i := 1428) (by decide +kernel)) rfl
theorem se_X11_ask : xSel m_X11_ask := xTbl_in (List.mem_of_getElem? (i := 1429) (by decide +kernel)) rfl
theorem k_X11_drift : xMOK m_X11_drift := ⟨rfl, by decide, by decide +kernel⟩
theorem tg_X11_drift : xTg m_X11_drift 3 := ⟨by decide +kernel, xTbl_in (List.mem_of_getElem? (i := 1434) (by decide +kernel)) rfl, xTbl_in (List.mem_of_getElem? (i := 78) (by decide +kernel)) rfl⟩
theorem in_X11_drift : xIns m_X11_drift := xTbl_in (List.mem_of_getElem? (i := 1432) (by decide +kernel)) rfl
theorem se_X11_drift : xSel m_X11_drift := xTbl_in (List.mem_of_getElem? (i := 1433) (by decide +kernel)) rfl
theorem k_X11_copies : xMOK m_X11_copies := ⟨rfl, by decide, by decide +kernel⟩
theorem tg_X11_copies : xTg m_X11_copies 2 := ⟨by decide +kernel, xTbl_in (List.mem_of_getElem? (i := 1443) (by decide +kernel)) rfl, xTbl_in (List.mem_of_getElem? (i := 78) (by decide +kernel)) rfl⟩
theorem in_X11_copies : xIns m_X11_copies := xTbl_in (List.mem_of_getElem? (i := 1442) (by decide +kernel)) rfl
theorem se_X11_copies : xSel m_X11_copies := xTbl_in (List.mem_of_getElem? (i := 65) (by decide +kernel)) rfl
theorem k_X11_keep : xMOK m_X11_keep := ⟨rfl, by decide, by decide +kernel⟩
theorem tg_X11_keep : xTg m_X11_keep 1 := ⟨by decide +kernel, xTbl_in (List.mem_of_getElem? (i := 1439) (by decide +kernel)) rfl, xTbl_in (List.mem_of_getElem? (i := 78) (by decide +kernel)) rfl⟩
theorem in_X11_keep : xIns m_X11_keep := xTbl_in (List.mem_of_getElem? (i := 1437) (by decide +kernel)) rfl
theorem se_X11_keep : xSel m_X11_keep := xTbl_in (List.mem_of_getElem? (i := 1438) (by decide +kernel)) rfl
theorem k_X11_back : xMOK m_X11_back := ⟨rfl, by decide, by decide +kernel⟩
theorem tg_X11_back : xTg m_X11_back 1 := ⟨by decide +kernel, xTbl_in (List.mem_of_getElem? (i := 1447) (by decide +kernel)) rfl, xTbl_in (List.mem_of_getElem? (i := 78) (by decide +kernel)) rfl⟩
theorem in_X11_back : xIns m_X11_back := xTbl_in (List.mem_of_getElem? (i := 1445) (by decide +kernel)) rfl
theorem se_X11_back : xSel m_X11_back := xTbl_in (List.mem_of_getElem? (i := 1446) (by decide +kernel)) rfl
theorem k_X11_isSheet : xMOK m_X11_isSheet := ⟨rfl, by decide, by decide +kernel⟩
theorem tg_X11_isSheet : xTg m_X11_isSheet 2 := ⟨by decide +kernel, xTbl_in (List.mem_of_getElem? (i := 1454) (by decide +kernel)) rfl, xTbl_in (List.mem_of_getElem? (i := 78) (by decide +kernel)) rfl⟩
theorem sa_X11_isSheet : xSta m_X11_isSheet := xTbl_in (List.mem_of_getElem? (i := 1453) (by decide +kernel)) rfl
theorem k_X11_sheet : xMOK m_X11_sheet := ⟨rfl, by decide, by decide +kernel⟩
theorem tg_X11_sheet : xTg m_X11_sheet 3 := ⟨by decide +kernel, xTbl_in (List.mem_of_getElem? (i := 1451) (by decide +kernel)) rfl, xTbl_in (List.mem_of_getElem? (i := 78) (by decide +kernel)) rfl⟩
theorem in_X11_sheet : xIns m_X11_sheet := xTbl_in (List.mem_of_getElem? (i := 1449) (by decide +kernel)) rfl
theorem se_X11_sheet : xSel m_X11_sheet := xTbl_in (List.mem_of_getElem? (i := 1450) (by decide +kernel)) rfl
theorem k_X11_lay : xMOK m_X11_lay := ⟨rfl, by decide, by decide +kernel⟩
theorem tg_X11_lay : xTg m_X11_lay 3 := ⟨by decide +kernel, xTbl_in (List.mem_of_getElem? (i := 1458) (by decide +kernel)) rfl, xTbl_in (List.mem_of_getElem? (i := 78) (by decide +kernel)) rfl⟩
theorem in_X11_lay : xIns m_X11_lay := xTbl_in (List.mem_of_getElem? (i := 1456) (by decide +kernel)) rfl
theorem se_X11_lay : xSel m_X11_lay := xTbl_in (List.mem_of_getElem? (i := 1457) (by decide +kernel)) rfl
theorem k_X11_read : xMOK m_X11_read := ⟨rfl, by decide, by decide +kernel⟩
theorem tg_X11_read : xTg m_X11_read 4 := ⟨by decide +kernel, xTbl_in (List.mem_of_getElem? (i := 1462) (by decide +kernel)) rfl, xTbl_in (List.mem_of_getElem? (i := 78) (by decide +kernel)) rfl⟩
theorem in_X11_read : xIns m_X11_read := xTbl_in (List.mem_of_getElem? (i := 1460) (by decide +kernel)) rfl
theorem se_X11_read : xSel m_X11_read := xTbl_in (List.mem_of_getElem? (i := 1461) (by decide +kernel)) rfl
theorem k_X11_torn : xMOK m_X11_torn := ⟨rfl, by decide, by decide +kernel⟩
theorem tg_X11_torn : xTg m_X11_torn 0 := ⟨by decide +kernel, xTbl_in (List.mem_of_getElem? (i := 1468) (by decide +kernel)) rfl, xTbl_in (List.mem_of_getElem? (i := 78) (by decide +kernel)) rfl⟩
theorem in_X11_torn : xIns m_X11_torn := xTbl_in (List.mem_of_getElem? (i := 1466) (by decide +kernel)) rfl
theorem se_X11_torn : xSel m_X11_torn := xTbl_in (List.mem_of_getElem? (i := 1467) (by decide +kernel)) rfl
theorem k_X11_count : xMOK m_X11_count := ⟨rfl, by decide, by decide +kernel⟩
theorem tg_X11_count : xTg m_X11_count 1 := ⟨by decide +kernel, xTbl_in (List.mem_of_getElem? (i := 1472) (by decide +kernel)) rfl, xTbl_in (List.mem_of_getElem? (i := 78) (by decide +kernel)) rfl⟩
theorem in_X11_count : xIns m_X11_count := xTbl_in (List.mem_of_getElem? (i := 1470) (by decide +kernel)) rfl
theorem se_X11_count : xSel m_X11_count := xTbl_in (List.mem_of_getElem? (i := 1471) (by decide +kernel)) rfl
theorem k_J6_bitCount_0f7a4 : xMOK m_J6_bitCount_0f7a4 := ⟨rfl, by decide, by decide +kernel⟩
theorem tg_J6_bitCount_0f7a4 : xTg m_J6_bitCount_0f7a4 1 := ⟨by decide +kernel, xTbl_in (List.mem_of_getElem? (i := 769) (by decide +kernel)) rfl, xTbl_in (List.mem_of_getElem? (i := 84) (by decide +kernel)) rfl⟩
theorem sa_J6_bitCount_0f7a4 : xSta m_J6_bitCount_0f7a4 := xTbl_in (List.mem_of_getElem? (i := 768) (by decide +kernel)) rfl
theorem k_J0_length_8abf5 : xMOK m_J0_length_8abf5 := ⟨rfl, by decide, by decide +kernel⟩
theorem tg_J0_length_8abf5 : xTg m_J0_length_8abf5 0 := ⟨by decide +kernel, xTbl_in (List.mem_of_getElem? (i := 480) (by decide +kernel)) rfl, xTbl_in (List.mem_of_getElem? (i := 79) (by decide +kernel)) rfl⟩
theorem in_J0_length_8abf5 : xIns m_J0_length_8abf5 := xTbl_in (List.mem_of_getElem? (i := 478) (by decide +kernel)) rfl
theorem se_J0_length_8abf5 : xSel m_J0_length_8abf5 := xTbl_in (List.mem_of_getElem? (i := 479) (by decide +kernel)) rfl
theorem k_J0_charAt_5068e : xMOK m_J0_charAt_5068e := ⟨rfl, by decide, by decide +kernel⟩
theorem tg_J0_charAt_5068e : xTg m_J0_charAt_5068e 1 := ⟨by decide +kernel, xTbl_in (List.mem_of_getElem? (i := 490) (by decide +kernel)) rfl, xTbl_in (List.mem_of_getElem? (i := 79) (by decide +kernel)) rfl⟩
theorem in_J0_charAt_5068e : xIns m_J0_charAt_5068e := xTbl_in (List.mem_of_getElem? (i := 488) (by decide +kernel)) rfl
theorem se_J0_charAt_5068e : xSel m_J0_charAt_5068e := xTbl_in (List.mem_of_getElem? (i := 489) (by decide +kernel)) rfl
theorem k_J0_coder_7d493 : xMOK m_J0_coder_7d493 := ⟨rfl, by decide, by decide +kernel⟩
theorem tg_J0_coder_7d493 : xTg m_J0_coder_7d493 0 := ⟨by decide +kernel, xTbl_in (List.mem_of_getElem? (i := 484) (by decide +kernel)) rfl, xTbl_in (List.mem_of_getElem? (i := 79) (by decide +kernel)) rfl⟩
theorem in_J0_coder_7d493 : xIns m_J0_coder_7d493 := xTbl_in (List.mem_of_getElem? (i := 482) (by decide +kernel)) rfl
theorem se_J0_coder_7d493 : xSel m_J0_coder_7d493 := xTbl_in (List.mem_of_getElem? (i := 483) (by decide +kernel)) rfl
theorem k_J0_isLatin1_aae02 : xMOK m_J0_isLatin1_aae02 := ⟨rfl, by decide, by decide +kernel⟩
theorem tg_J0_isLatin1_aae02 : xTg m_J0_isLatin1_aae02 0 := ⟨by decide +kernel, xTbl_in (List.mem_of_getElem? (i := 494) (by decide +kernel)) rfl, xTbl_in (List.mem_of_getElem? (i := 79) (by decide +kernel)) rfl⟩
theorem in_J0_isLatin1_aae02 : xIns m_J0_isLatin1_aae02 := xTbl_in (List.mem_of_getElem? (i := 492) (by decide +kernel)) rfl
theorem se_J0_isLatin1_aae02 : xSel m_J0_isLatin1_aae02 := xTbl_in (List.mem_of_getElem? (i := 493) (by decide +kernel)) rfl
theorem k_J0_checkIndex_df160 : xMOK m_J0_checkIndex_df160 := ⟨rfl, by decide, by decide +kernel⟩
theorem tg_J0_checkIndex_df160 : xTg m_J0_checkIndex_df160 2 := ⟨by decide +kernel, xTbl_in (List.mem_of_getElem? (i := 500) (by decide +kernel)) rfl, xTbl_in (List.mem_of_getElem? (i := 79) (by decide +kernel)) rfl⟩
theorem sa_J0_checkIndex_df160 : xSta m_J0_checkIndex_df160 := xTbl_in (List.mem_of_getElem? (i := 499) (by decide +kernel)) rfl
theorem k_J1_charAt_3b067 : xMOK m_J1_charAt_3b067 := ⟨rfl, by decide, by decide +kernel⟩
theorem tg_J1_charAt_3b067 : xTg m_J1_charAt_3b067 2 := ⟨by decide +kernel, xTbl_in (List.mem_of_getElem? (i := 497) (by decide +kernel)) rfl, xTbl_in (List.mem_of_getElem? (i := 80) (by decide +kernel)) rfl⟩
theorem sa_J1_charAt_3b067 : xSta m_J1_charAt_3b067 := xTbl_in (List.mem_of_getElem? (i := 496) (by decide +kernel)) rfl
theorem k_J3_checkIndex_8e157 : xMOK m_J3_checkIndex_8e157 := ⟨rfl, by decide, by decide +kernel⟩
theorem tg_J3_checkIndex_8e157 : xTg m_J3_checkIndex_8e157 3 := ⟨by decide +kernel, xTbl_in (List.mem_of_getElem? (i := 505) (by decide +kernel)) rfl, xTbl_in (List.mem_of_getElem? (i := 81) (by decide +kernel)) rfl⟩
theorem sa_J3_checkIndex_8e157 : xSta m_J3_checkIndex_8e157 := xTbl_in (List.mem_of_getElem? (i := 504) (by decide +kernel)) rfl
theorem lk_RL_9 : xLk RL 9 m_X10_init := xTbl_in (List.mem_of_getElem? (i := 87) (by decide +kernel)) rfl
theorem lk_X10_9 : xLk RX10 9 m_X1_init := xTbl_in (List.mem_of_getElem? (i := 95) (by decide +kernel)) rfl
theorem lk_X1_32 : xLk RX1 32 m_X1_begin := xTbl_in (List.mem_of_getElem? (i := 199) (by decide +kernel)) rfl
theorem lk_X10_25 : xLk RX10 25 m_X3_init := xTbl_in (List.mem_of_getElem? (i := 245) (by decide +kernel)) rfl
theorem lk_X3_9 : xLk RX3 9 m_X1_init := xTbl_in (List.mem_of_getElem? (i := 250) (by decide +kernel)) rfl
theorem lk_X10_28 : xLk RX10 28 m_X9_init := xTbl_in (List.mem_of_getElem? (i := 262) (by decide +kernel)) rfl
theorem lk_X10_35 : xLk RX10 35 m_X2_init := xTbl_in (List.mem_of_getElem? (i := 300) (by decide +kernel)) rfl
theorem lk_X10_42 : xLk RX10 42 m_X5_init := xTbl_in (List.mem_of_getElem? (i := 330) (by decide +kernel)) rfl
theorem lk_X10_49 : xLk RX10 49 m_X0_init := xTbl_in (List.mem_of_getElem? (i := 351) (by decide +kernel)) rfl
theorem lk_X10_60 : xLk RX10 60 m_X6_init := xTbl_in (List.mem_of_getElem? (i := 362) (by decide +kernel)) rfl
theorem lk_RL_13 : xLk RL 13 m_X10_feed := xTbl_in (List.mem_of_getElem? (i := 409) (by decide +kernel)) rfl
theorem lk_X10_65 : xLk RX10 65 m_X9_append := xTbl_in (List.mem_of_getElem? (i := 413) (by decide +kernel)) rfl
theorem lk_RL_18 : xLk RL 18 m_X10_end := xTbl_in (List.mem_of_getElem? (i := 417) (by decide +kernel)) rfl
theorem lk_RL_22 : xLk RL 22 m_X10_text := xTbl_in (List.mem_of_getElem? (i := 421) (by decide +kernel)) rfl
theorem lk_X10_72 : xLk RX10 72 m_X9_parse := xTbl_in (List.mem_of_getElem? (i := 425) (by decide +kernel)) rfl
theorem lk_X9_25 : xLk RX9 25 m_X1_begin := xTbl_in (List.mem_of_getElem? (i := 429) (by decide +kernel)) rfl
theorem lk_X9_37 : xLk RX9 37 m_X9_take := xTbl_in (List.mem_of_getElem? (i := 430) (by decide +kernel)) rfl
theorem lk_X9_113 : xLk RX9 113 m_X9_behind := xTbl_in (List.mem_of_getElem? (i := 434) (by decide +kernel)) rfl
theorem lk_X9_117 : xLk RX9 117 m_X9_byteAt := xTbl_in (List.mem_of_getElem? (i := 438) (by decide +kernel)) rfl
theorem lk_X9_121 : xLk RX9 121 m_X9_valueThere := xTbl_in (List.mem_of_getElem? (i := 445) (by decide +kernel)) rfl
theorem lk_X9_61 : xLk RX9 61 m_X9_fail := xTbl_in (List.mem_of_getElem? (i := 449) (by decide +kernel)) rfl
theorem lk_X9_43 : xLk RX9 43 m_X9_line := xTbl_in (List.mem_of_getElem? (i := 453) (by decide +kernel)) rfl
theorem lk_X9_47 : xLk RX9 47 m_X9_wordThere := xTbl_in (List.mem_of_getElem? (i := 457) (by decide +kernel)) rfl
theorem lk_X9_124 : xLk RX9 124 m_X9_wordOf := xTbl_in (List.mem_of_getElem? (i := 461) (by decide +kernel)) rfl
theorem lk_X9_128 : xLk RX9 128 m_X9_spells := xTbl_in (List.mem_of_getElem? (i := 473) (by decide +kernel)) rfl
theorem lk_X9_132 : xLk RX9 132 m_J0_length_8abf5 := xTbl_in (List.mem_of_getElem? (i := 477) (by decide +kernel)) rfl
theorem lk_J0_335 : xLk RJ0 335 m_J0_coder_7d493 := xTbl_in (List.mem_of_getElem? (i := 481) (by decide +kernel)) rfl
theorem lk_X9_136 : xLk RX9 136 m_J0_charAt_5068e := xTbl_in (List.mem_of_getElem? (i := 487) (by decide +kernel)) rfl
theorem lk_J0_492 : xLk RJ0 492 m_J0_isLatin1_aae02 := xTbl_in (List.mem_of_getElem? (i := 491) (by decide +kernel)) rfl
theorem lk_J0_495 : xLk RJ0 495 m_J1_charAt_3b067 := xTbl_in (List.mem_of_getElem? (i := 495) (by decide +kernel)) rfl
theorem lk_J1_9 : xLk RJ1 9 m_J0_checkIndex_df160 := xTbl_in (List.mem_of_getElem? (i := 498) (by decide +kernel)) rfl
theorem lk_J0_1059 : xLk RJ0 1059 m_J3_checkIndex_8e157 := xTbl_in (List.mem_of_getElem? (i := 503) (by decide +kernel)) rfl
theorem lk_J2_414 : xLk RJ2 414 m_J0_checkIndex_df160 := xTbl_in (List.mem_of_getElem? (i := 515) (by decide +kernel)) rfl
theorem lk_X9_51 : xLk RX9 51 m_X9_lineOfJudge := xTbl_in (List.mem_of_getElem? (i := 525) (by decide +kernel)) rfl
theorem lk_X9_65 : xLk RX9 65 m_X1_addJudge := xTbl_in (List.mem_of_getElem? (i := 529) (by decide +kernel)) rfl
theorem lk_X9_69 : xLk RX9 69 m_X9_number := xTbl_in (List.mem_of_getElem? (i := 533) (by decide +kernel)) rfl
theorem lk_X9_76 : xLk RX9 76 m_X1_judgeAt := xTbl_in (List.mem_of_getElem? (i := 537) (by decide +kernel)) rfl
theorem lk_X9_80 : xLk RX9 80 m_X4_begin := xTbl_in (List.mem_of_getElem? (i := 541) (by decide +kernel)) rfl
theorem lk_X9_55 : xLk RX9 55 m_X9_lineOfSuit := xTbl_in (List.mem_of_getElem? (i := 545) (by decide +kernel)) rfl
theorem lk_X9_85 : xLk RX9 85 m_X1_addSuit := xTbl_in (List.mem_of_getElem? (i := 549) (by decide +kernel)) rfl
theorem lk_X9_91 : xLk RX9 91 m_X1_suitAt := xTbl_in (List.mem_of_getElem? (i := 553) (by decide +kernel)) rfl
theorem lk_X9_95 : xLk RX9 95 m_X8_begin := xTbl_in (List.mem_of_getElem? (i := 557) (by decide +kernel)) rfl
theorem lk_X8_24 : xLk RX8 24 m_X8_close := xTbl_in (List.mem_of_getElem? (i := 561) (by decide +kernel)) rfl
theorem lk_X9_58 : xLk RX9 58 m_X9_lineOfCrime := xTbl_in (List.mem_of_getElem? (i := 565) (by decide +kernel)) rfl
theorem lk_X10_82 : xLk RX10 82 m_X1_copy := xTbl_in (List.mem_of_getElem? (i := 569) (by decide +kernel)) rfl
theorem lk_X1_51 : xLk RX1 51 m_X1_judgeAt := xTbl_in (List.mem_of_getElem? (i := 573) (by decide +kernel)) rfl
theorem lk_X1_55 : xLk RX1 55 m_X1_copyJudge := xTbl_in (List.mem_of_getElem? (i := 574) (by decide +kernel)) rfl
theorem lk_X1_75 : xLk RX1 75 m_X4_copy := xTbl_in (List.mem_of_getElem? (i := 577) (by decide +kernel)) rfl
theorem lk_X1_59 : xLk RX1 59 m_X1_suitAt := xTbl_in (List.mem_of_getElem? (i := 581) (by decide +kernel)) rfl
theorem lk_X1_63 : xLk RX1 63 m_X1_copySuit := xTbl_in (List.mem_of_getElem? (i := 582) (by decide +kernel)) rfl
theorem lk_X1_79 : xLk RX1 79 m_X8_copy := xTbl_in (List.mem_of_getElem? (i := 585) (by decide +kernel)) rfl
theorem lk_X1_67 : xLk RX1 67 m_X1_sightAt := xTbl_in (List.mem_of_getElem? (i := 589) (by decide +kernel)) rfl
theorem lk_X1_71 : xLk RX1 71 m_X1_copySight := xTbl_in (List.mem_of_getElem? (i := 593) (by decide +kernel)) rfl
theorem lk_X1_91 : xLk RX1 91 m_X7_begin := xTbl_in (List.mem_of_getElem? (i := 596) (by decide +kernel)) rfl
theorem lk_X10_86 : xLk RX10 86 m_X10_dropImages := xTbl_in (List.mem_of_getElem? (i := 600) (by decide +kernel)) rfl
theorem lk_X10_291 : xLk RX10 291 m_X10_imageAt := xTbl_in (List.mem_of_getElem? (i := 604) (by decide +kernel)) rfl
theorem lk_RL_27 : xLk RL 27 m_X10_fault := xTbl_in (List.mem_of_getElem? (i := 608) (by decide +kernel)) rfl
theorem lk_RL_31 : xLk RL 31 m_X10_rule := xTbl_in (List.mem_of_getElem? (i := 612) (by decide +kernel)) rfl
theorem lk_X10_101 : xLk RX10 101 m_X1_heardBits := xTbl_in (List.mem_of_getElem? (i := 616) (by decide +kernel)) rfl
theorem lk_X1_94 : xLk RX1 94 m_X8_isHeard := xTbl_in (List.mem_of_getElem? (i := 620) (by decide +kernel)) rfl
theorem lk_X10_105 : xLk RX10 105 m_X1_awayBits := xTbl_in (List.mem_of_getElem? (i := 624) (by decide +kernel)) rfl
theorem lk_X10_108 : xLk RX10 108 m_X1_allSentences := xTbl_in (List.mem_of_getElem? (i := 628) (by decide +kernel)) rfl
theorem lk_RL_35 : xLk RL 35 m_X10_judge := xTbl_in (List.mem_of_getElem? (i := 632) (by decide +kernel)) rfl
theorem lk_X10_111 : xLk RX10 111 m_X1_judgeAt := xTbl_in (List.mem_of_getElem? (i := 636) (by decide +kernel)) rfl
theorem lk_X10_132 : xLk RX10 132 m_X1_bitsBy := xTbl_in (List.mem_of_getElem? (i := 637) (by decide +kernel)) rfl
theorem lk_RL_40 : xLk RL 40 m_X10_suit := xTbl_in (List.mem_of_getElem? (i := 641) (by decide +kernel)) rfl
theorem lk_X10_136 : xLk RX10 136 m_X1_suitAt := xTbl_in (List.mem_of_getElem? (i := 645) (by decide +kernel)) rfl
theorem lk_RL_44 : xLk RL 44 m_X10_tenth := xTbl_in (List.mem_of_getElem? (i := 646) (by decide +kernel)) rfl
theorem lk_X10_158 : xLk RX10 158 m_X10_within := xTbl_in (List.mem_of_getElem? (i := 650) (by decide +kernel)) rfl
theorem lk_X10_162 : xLk RX10 162 m_X10_tenthBy := xTbl_in (List.mem_of_getElem? (i := 651) (by decide +kernel)) rfl
theorem lk_RL_48 : xLk RL 48 m_X10_alter := xTbl_in (List.mem_of_getElem? (i := 654) (by decide +kernel)) rfl
theorem lk_RL_53 : xLk RL 53 m_X10_amend := xTbl_in (List.mem_of_getElem? (i := 658) (by decide +kernel)) rfl
theorem lk_X10_166 : xLk RX10 166 m_X8_admits := xTbl_in (List.mem_of_getElem? (i := 662) (by decide +kernel)) rfl
theorem lk_X10_170 : xLk RX10 170 m_X8_isHeard := xTbl_in (List.mem_of_getElem? (i := 667) (by decide +kernel)) rfl
theorem lk_X10_174 : xLk RX10 174 m_X8_replace := xTbl_in (List.mem_of_getElem? (i := 668) (by decide +kernel)) rfl
theorem lk_RL_57 : xLk RL 57 m_X10_crime := xTbl_in (List.mem_of_getElem? (i := 672) (by decide +kernel)) rfl
theorem lk_RL_61 : xLk RL 61 m_X10_can := xTbl_in (List.mem_of_getElem? (i := 676) (by decide +kernel)) rfl
theorem lk_X10_177 : xLk RX10 177 m_X1_canHear := xTbl_in (List.mem_of_getElem? (i := 680) (by decide +kernel)) rfl
theorem lk_X1_112 : xLk RX1 112 m_X4_bears := xTbl_in (List.mem_of_getElem? (i := 685) (by decide +kernel)) rfl
theorem lk_RL_65 : xLk RL 65 m_X10_give := xTbl_in (List.mem_of_getElem? (i := 689) (by decide +kernel)) rfl
theorem lk_X10_181 : xLk RX10 181 m_X10_sentenceAsAsked := xTbl_in (List.mem_of_getElem? (i := 693) (by decide +kernel)) rfl
theorem lk_X10_343 : xLk RX10 343 m_X1_sentence := xTbl_in (List.mem_of_getElem? (i := 696) (by decide +kernel)) rfl
theorem lk_X1_119 : xLk RX1 119 m_X1_canHear := xTbl_in (List.mem_of_getElem? (i := 700) (by decide +kernel)) rfl
theorem lk_X1_123 : xLk RX1 123 m_X4_serve := xTbl_in (List.mem_of_getElem? (i := 701) (by decide +kernel)) rfl
theorem lk_X1_126 : xLk RX1 126 m_X8_close := xTbl_in (List.mem_of_getElem? (i := 705) (by decide +kernel)) rfl
theorem lk_RL_69 : xLk RL 69 m_X10_appeal := xTbl_in (List.mem_of_getElem? (i := 712) (by decide +kernel)) rfl
theorem lk_X10_185 : xLk RX10 185 m_X1_undo := xTbl_in (List.mem_of_getElem? (i := 716) (by decide +kernel)) rfl
theorem lk_X1_142 : xLk RX1 142 m_X4_regain := xTbl_in (List.mem_of_getElem? (i := 720) (by decide +kernel)) rfl
theorem lk_RL_73 : xLk RL 73 m_X10_days := xTbl_in (List.mem_of_getElem? (i := 731) (by decide +kernel)) rfl
theorem lk_X10_189 : xLk RX10 189 m_X1_nextDay := xTbl_in (List.mem_of_getElem? (i := 735) (by decide +kernel)) rfl
theorem lk_RL_77 : xLk RL 77 m_X10_docket := xTbl_in (List.mem_of_getElem? (i := 740) (by decide +kernel)) rfl
theorem lk_X10_192 : xLk RX10 192 m_X2_seatAll := xTbl_in (List.mem_of_getElem? (i := 744) (by decide +kernel)) rfl
theorem lk_X2_19 : xLk RX2 19 m_X2_seatWithout := xTbl_in (List.mem_of_getElem? (i := 748) (by decide +kernel)) rfl
theorem lk_X2_28 : xLk RX2 28 m_X2_seat := xTbl_in (List.mem_of_getElem? (i := 752) (by decide +kernel)) rfl
theorem lk_X10_195 : xLk RX10 195 m_X2_play := xTbl_in (List.mem_of_getElem? (i := 756) (by decide +kernel)) rfl
theorem lk_X2_66 : xLk RX2 66 m_X1_copy := xTbl_in (List.mem_of_getElem? (i := 760) (by decide +kernel)) rfl
theorem lk_X2_70 : xLk RX2 70 m_X1_isClear := xTbl_in (List.mem_of_getElem? (i := 761) (by decide +kernel)) rfl
theorem lk_X1_155 : xLk RX1 155 m_X1_awayBits := xTbl_in (List.mem_of_getElem? (i := 765) (by decide +kernel)) rfl
theorem lk_X1_159 : xLk RX1 159 m_X1_heardBits := xTbl_in (List.mem_of_getElem? (i := 766) (by decide +kernel)) rfl
theorem lk_X1_162 : xLk RX1 162 m_J6_bitCount_0f7a4 := xTbl_in (List.mem_of_getElem? (i := 767) (by decide +kernel)) rfl
theorem lk_X2_77 : xLk RX2 77 m_X2_hearFirst := xTbl_in (List.mem_of_getElem? (i := 773) (by decide +kernel)) rfl
theorem lk_X2_83 : xLk RX2 83 m_X1_sentenceToLeast := xTbl_in (List.mem_of_getElem? (i := 776) (by decide +kernel)) rfl
theorem lk_X1_132 : xLk RX1 132 m_X1_sentence := xTbl_in (List.mem_of_getElem? (i := 780) (by decide +kernel)) rfl
theorem lk_X2_80 : xLk RX2 80 m_X1_nextDay := xTbl_in (List.mem_of_getElem? (i := 781) (by decide +kernel)) rfl
theorem lk_X2_39 : xLk RX2 39 m_X1_heardBits := xTbl_in (List.mem_of_getElem? (i := 782) (by decide +kernel)) rfl
theorem lk_X10_202 : xLk RX10 202 m_X1_allPurses := xTbl_in (List.mem_of_getElem? (i := 783) (by decide +kernel)) rfl
theorem lk_X10_205 : xLk RX10 205 m_X1_allHealth := xTbl_in (List.mem_of_getElem? (i := 787) (by decide +kernel)) rfl
theorem lk_X10_208 : xLk RX10 208 m_J6_bitCount_0f7a4 := xTbl_in (List.mem_of_getElem? (i := 791) (by decide +kernel)) rfl
theorem lk_RL_81 : xLk RL 81 m_X10_hears := xTbl_in (List.mem_of_getElem? (i := 792) (by decide +kernel)) rfl
theorem lk_RL_85 : xLk RL 85 m_X10_best := xTbl_in (List.mem_of_getElem? (i := 796) (by decide +kernel)) rfl
theorem lk_X10_216 : xLk RX10 216 m_X5_search := xTbl_in (List.mem_of_getElem? (i := 800) (by decide +kernel)) rfl
theorem lk_X5_30 : xLk RX5 30 m_X5_choose := xTbl_in (List.mem_of_getElem? (i := 804) (by decide +kernel)) rfl
theorem lk_X5_34 : xLk RX5 34 m_X1_judgeAt := xTbl_in (List.mem_of_getElem? (i := 807) (by decide +kernel)) rfl
theorem lk_X5_38 : xLk RX5 38 m_J6_bitCount_0f7a4 := xTbl_in (List.mem_of_getElem? (i := 808) (by decide +kernel)) rfl
theorem lk_X5_44 : xLk RX5 44 m_X5_weigh := xTbl_in (List.mem_of_getElem? (i := 809) (by decide +kernel)) rfl
theorem lk_X5_51 : xLk RX5 51 m_X1_suitAt := xTbl_in (List.mem_of_getElem? (i := 813) (by decide +kernel)) rfl
theorem lk_X5_60 : xLk RX5 60 m_X1_canHear := xTbl_in (List.mem_of_getElem? (i := 814) (by decide +kernel)) rfl
theorem lk_X10_225 : xLk RX10 225 m_X5_suitOf := xTbl_in (List.mem_of_getElem? (i := 816) (by decide +kernel)) rfl
theorem lk_RL_89 : xLk RL 89 m_X10_deter := xTbl_in (List.mem_of_getElem? (i := 820) (by decide +kernel)) rfl
theorem lk_X10_228 : xLk RX10 228 m_X10_lessCrime := xTbl_in (List.mem_of_getElem? (i := 824) (by decide +kernel)) rfl
theorem lk_RL_93 : xLk RL 93 m_X10_order := xTbl_in (List.mem_of_getElem? (i := 825) (by decide +kernel)) rfl
theorem lk_X10_231 : xLk RX10 231 m_X2_searchOrder := xTbl_in (List.mem_of_getElem? (i := 829) (by decide +kernel)) rfl
theorem lk_X2_43 : xLk RX2 43 m_J6_bitCount_0f7a4 := xTbl_in (List.mem_of_getElem? (i := 833) (by decide +kernel)) rfl
theorem lk_X2_55 : xLk RX2 55 m_X2_seatBy := xTbl_in (List.mem_of_getElem? (i := 834) (by decide +kernel)) rfl
theorem lk_X2_59 : xLk RX2 59 m_X2_play := xTbl_in (List.mem_of_getElem? (i := 841) (by decide +kernel)) rfl
theorem lk_X10_238 : xLk RX10 238 m_X10_seatIn := xTbl_in (List.mem_of_getElem? (i := 842) (by decide +kernel)) rfl
theorem lk_RL_97 : xLk RL 97 m_X10_spare := xTbl_in (List.mem_of_getElem? (i := 843) (by decide +kernel)) rfl
theorem lk_X10_242 : xLk RX10 242 m_X2_seatWithout := xTbl_in (List.mem_of_getElem? (i := 847) (by decide +kernel)) rfl
theorem lk_RL_101 : xLk RL 101 m_X10_hopeless := xTbl_in (List.mem_of_getElem? (i := 848) (by decide +kernel)) rfl
theorem lk_X10_246 : xLk RX10 246 m_X1_anyBears := xTbl_in (List.mem_of_getElem? (i := 852) (by decide +kernel)) rfl
theorem lk_RL_105 : xLk RL 105 m_X10_mean := xTbl_in (List.mem_of_getElem? (i := 856) (by decide +kernel)) rfl
theorem lk_X10_252 : xLk RX10 252 m_X10_oddsOf := xTbl_in (List.mem_of_getElem? (i := 861) (by decide +kernel)) rfl
theorem lk_X10_256 : xLk RX10 256 m_X1_crimeWithout := xTbl_in (List.mem_of_getElem? (i := 864) (by decide +kernel)) rfl
theorem lk_X10_259 : xLk RX10 259 m_X10_oddsInAll := xTbl_in (List.mem_of_getElem? (i := 868) (by decide +kernel)) rfl
theorem lk_X10_263 : xLk RX10 263 m_X10_lowest := xTbl_in (List.mem_of_getElem? (i := 872) (by decide +kernel)) rfl
theorem lk_RL_110 : xLk RL 110 m_X10_luck := xTbl_in (List.mem_of_getElem? (i := 875) (by decide +kernel)) rfl
theorem lk_RL_115 : xLk RL 115 m_X10_see := xTbl_in (List.mem_of_getElem? (i := 879) (by decide +kernel)) rfl
theorem lk_X10_267 : xLk RX10 267 m_X1_addSight := xTbl_in (List.mem_of_getElem? (i := 883) (by decide +kernel)) rfl
theorem lk_RL_119 : xLk RL 119 m_X10_forget := xTbl_in (List.mem_of_getElem? (i := 887) (by decide +kernel)) rfl
theorem lk_RL_123 : xLk RL 123 m_X10_kinds := xTbl_in (List.mem_of_getElem? (i := 891) (by decide +kernel)) rfl
theorem lk_X10_273 : xLk RX10 273 m_X0_kindsOf := xTbl_in (List.mem_of_getElem? (i := 895) (by decide +kernel)) rfl
theorem lk_X0_19 : xLk RX0 19 m_X0_couldBe := xTbl_in (List.mem_of_getElem? (i := 898) (by decide +kernel)) rfl
theorem lk_X0_29 : xLk RX0 29 m_X1_sightAt := xTbl_in (List.mem_of_getElem? (i := 901) (by decide +kernel)) rfl
theorem lk_X0_38 : xLk RX0 38 m_X0_someTenth := xTbl_in (List.mem_of_getElem? (i := 902) (by decide +kernel)) rfl
theorem lk_X0_45 : xLk RX0 45 m_X1_suitAt := xTbl_in (List.mem_of_getElem? (i := 905) (by decide +kernel)) rfl
theorem lk_RL_127 : xLk RL 127 m_X10_terms := xTbl_in (List.mem_of_getElem? (i := 907) (by decide +kernel)) rfl
theorem lk_X10_277 : xLk RX10 277 m_X0_gather := xTbl_in (List.mem_of_getElem? (i := 911) (by decide +kernel)) rfl
theorem lk_X0_15 : xLk RX0 15 m_X0_kindsOf := xTbl_in (List.mem_of_getElem? (i := 915) (by decide +kernel)) rfl
theorem lk_X10_280 : xLk RX10 280 m_X0_allow := xTbl_in (List.mem_of_getElem? (i := 916) (by decide +kernel)) rfl
theorem lk_X0_67 : xLk RX0 67 m_X0_isSeen := xTbl_in (List.mem_of_getElem? (i := 920) (by decide +kernel)) rfl
theorem lk_X0_70 : xLk RX0 70 m_X0_someKind := xTbl_in (List.mem_of_getElem? (i := 923) (by decide +kernel)) rfl
theorem lk_X0_74 : xLk RX0 74 m_X0_agrees := xTbl_in (List.mem_of_getElem? (i := 926) (by decide +kernel)) rfl
theorem lk_RL_131 : xLk RL 131 m_X10_ask := xTbl_in (List.mem_of_getElem? (i := 929) (by decide +kernel)) rfl
theorem lk_X10_284 : xLk RX10 284 m_X10_mostLeft := xTbl_in (List.mem_of_getElem? (i := 933) (by decide +kernel)) rfl
theorem lk_RL_135 : xLk RL 135 m_X10_drift := xTbl_in (List.mem_of_getElem? (i := 936) (by decide +kernel)) rfl
theorem lk_X10_288 : xLk RX10 288 m_X1_sentenceToLeast := xTbl_in (List.mem_of_getElem? (i := 941) (by decide +kernel)) rfl
theorem lk_RL_139 : xLk RL 139 m_X10_keep := xTbl_in (List.mem_of_getElem? (i := 942) (by decide +kernel)) rfl
theorem lk_RL_143 : xLk RL 143 m_X10_back := xTbl_in (List.mem_of_getElem? (i := 946) (by decide +kernel)) rfl
theorem lk_RL_147 : xLk RL 147 m_X10_sheet := xTbl_in (List.mem_of_getElem? (i := 950) (by decide +kernel)) rfl
theorem lk_X10_302 : xLk RX10 302 m_X10_sheetAt := xTbl_in (List.mem_of_getElem? (i := 954) (by decide +kernel)) rfl
theorem lk_X10_306 : xLk RX10 306 m_X6_begin := xTbl_in (List.mem_of_getElem? (i := 958) (by decide +kernel)) rfl
theorem lk_RL_151 : xLk RL 151 m_X10_lay := xTbl_in (List.mem_of_getElem? (i := 962) (by decide +kernel)) rfl
theorem lk_X10_310 : xLk RX10 310 m_X6_put := xTbl_in (List.mem_of_getElem? (i := 966) (by decide +kernel)) rfl
theorem lk_RL_155 : xLk RL 155 m_X10_read := xTbl_in (List.mem_of_getElem? (i := 970) (by decide +kernel)) rfl
theorem lk_X10_313 : xLk RX10 313 m_X6_faultTakenAs := xTbl_in (List.mem_of_getElem? (i := 974) (by decide +kernel)) rfl
theorem lk_X10_323 : xLk RX10 323 m_X6_cell := xTbl_in (List.mem_of_getElem? (i := 980) (by decide +kernel)) rfl
theorem lk_RL_160 : xLk RL 160 m_X10_torn := xTbl_in (List.mem_of_getElem? (i := 984) (by decide +kernel)) rfl
theorem lk_RL_164 : xLk RL 164 m_X10_count := xTbl_in (List.mem_of_getElem? (i := 988) (by decide +kernel)) rfl
theorem lk_X10_326 : xLk RX10 326 m_X10_imagesThere := xTbl_in (List.mem_of_getElem? (i := 992) (by decide +kernel)) rfl
theorem lk_X10_329 : xLk RX10 329 m_X10_cellsOfFirst := xTbl_in (List.mem_of_getElem? (i := 996) (by decide +kernel)) rfl
theorem lk_X10_332 : xLk RX10 332 m_X1_allScars := xTbl_in (List.mem_of_getElem? (i := 1000) (by decide +kernel)) rfl
theorem lk_RL_12 : xLk RL 12 m_X11_init := xTbl_in (List.mem_of_getElem? (i := 1006) (by decide +kernel)) rfl
theorem lk_X11_41 : xLk RX11 41 m_X11_firstDraft := xTbl_in (List.mem_of_getElem? (i := 1010) (by decide +kernel)) rfl
theorem lk_X11_44 : xLk RX11 44 m_X11_keepDraft := xTbl_in (List.mem_of_getElem? (i := 1014) (by decide +kernel)) rfl
theorem lk_RL_17 : xLk RL 17 m_X11_feed := xTbl_in (List.mem_of_getElem? (i := 1104) (by decide +kernel)) rfl
theorem lk_X11_66 : xLk RX11 66 m_X11_in := xTbl_in (List.mem_of_getElem? (i := 1109) (by decide +kernel)) rfl
theorem lk_RL_21 : xLk RL 21 m_X11_end := xTbl_in (List.mem_of_getElem? (i := 1112) (by decide +kernel)) rfl
theorem lk_RL_26 : xLk RL 26 m_X11_text := xTbl_in (List.mem_of_getElem? (i := 1116) (by decide +kernel)) rfl
theorem lk_X11_119 : xLk RX11 119 m_X11_takes := xTbl_in (List.mem_of_getElem? (i := 1120) (by decide +kernel)) rfl
theorem lk_X11_85 : xLk RX11 85 m_X11_byteAt := xTbl_in (List.mem_of_getElem? (i := 1124) (by decide +kernel)) rfl
theorem lk_X11_115 : xLk RX11 115 m_X11_needs := xTbl_in (List.mem_of_getElem? (i := 1132) (by decide +kernel)) rfl
theorem lk_X11_136 : xLk RX11 136 m_X11_readLine := xTbl_in (List.mem_of_getElem? (i := 1136) (by decide +kernel)) rfl
theorem lk_X11_130 : xLk RX11 130 m_X11_lineNow := xTbl_in (List.mem_of_getElem? (i := 1140) (by decide +kernel)) rfl
theorem lk_X11_89 : xLk RX11 89 m_X11_is := xTbl_in (List.mem_of_getElem? (i := 1144) (by decide +kernel)) rfl
theorem lk_X11_93 : xLk RX11 93 m_X11_ends := xTbl_in (List.mem_of_getElem? (i := 1148) (by decide +kernel)) rfl
theorem lk_X11_97 : xLk RX11 97 m_X11_judgeNow := xTbl_in (List.mem_of_getElem? (i := 1152) (by decide +kernel)) rfl
theorem lk_X11_133 : xLk RX11 133 m_X11_readLineOf := xTbl_in (List.mem_of_getElem? (i := 1156) (by decide +kernel)) rfl
theorem lk_X11_122 : xLk RX11 122 m_X11_readNumber := xTbl_in (List.mem_of_getElem? (i := 1160) (by decide +kernel)) rfl
theorem lk_X11_126 : xLk RX11 126 m_X11_readCase := xTbl_in (List.mem_of_getElem? (i := 1164) (by decide +kernel)) rfl
theorem lk_RL_30 : xLk RL 30 m_X11_fault := xTbl_in (List.mem_of_getElem? (i := 1168) (by decide +kernel)) rfl
theorem lk_RL_34 : xLk RL 34 m_X11_rule := xTbl_in (List.mem_of_getElem? (i := 1172) (by decide +kernel)) rfl
theorem lk_X11_192 : xLk RX11 192 m_X11_starts := xTbl_in (List.mem_of_getElem? (i := 1176) (by decide +kernel)) rfl
theorem lk_X11_145 : xLk RX11 145 m_X11_ofCase := xTbl_in (List.mem_of_getElem? (i := 1180) (by decide +kernel)) rfl
theorem lk_X11_183 : xLk RX11 183 m_X11_heard := xTbl_in (List.mem_of_getElem? (i := 1184) (by decide +kernel)) rfl
theorem lk_X11_161 : xLk RX11 161 m_X11_flag := xTbl_in (List.mem_of_getElem? (i := 1188) (by decide +kernel)) rfl
theorem lk_X11_195 : xLk RX11 195 m_X11_away := xTbl_in (List.mem_of_getElem? (i := 1191) (by decide +kernel)) rfl
theorem lk_X11_139 : xLk RX11 139 m_X11_of := xTbl_in (List.mem_of_getElem? (i := 1195) (by decide +kernel)) rfl
theorem lk_RL_39 : xLk RL 39 m_X11_judge := xTbl_in (List.mem_of_getElem? (i := 1199) (by decide +kernel)) rfl
theorem lk_X11_198 : xLk RX11 198 m_X11_isJudge := xTbl_in (List.mem_of_getElem? (i := 1203) (by decide +kernel)) rfl
theorem lk_RL_43 : xLk RL 43 m_X11_suit := xTbl_in (List.mem_of_getElem? (i := 1208) (by decide +kernel)) rfl
theorem lk_X11_204 : xLk RX11 204 m_X11_isCase := xTbl_in (List.mem_of_getElem? (i := 1212) (by decide +kernel)) rfl
theorem lk_RL_47 : xLk RL 47 m_X11_tenth := xTbl_in (List.mem_of_getElem? (i := 1216) (by decide +kernel)) rfl
theorem lk_X11_142 : xLk RX11 142 m_X11_tenthBy := xTbl_in (List.mem_of_getElem? (i := 1221) (by decide +kernel)) rfl
theorem lk_RL_52 : xLk RL 52 m_X11_alter := xTbl_in (List.mem_of_getElem? (i := 1224) (by decide +kernel)) rfl
theorem lk_X11_215 : xLk RX11 215 m_X11_becomes := xTbl_in (List.mem_of_getElem? (i := 1231) (by decide +kernel)) rfl
theorem lk_RL_56 : xLk RL 56 m_X11_amend := xTbl_in (List.mem_of_getElem? (i := 1235) (by decide +kernel)) rfl
theorem lk_X11_218 : xLk RX11 218 m_X11_isHeard := xTbl_in (List.mem_of_getElem? (i := 1239) (by decide +kernel)) rfl
theorem lk_RL_60 : xLk RL 60 m_X11_crime := xTbl_in (List.mem_of_getElem? (i := 1243) (by decide +kernel)) rfl
theorem lk_RL_64 : xLk RL 64 m_X11_can := xTbl_in (List.mem_of_getElem? (i := 1247) (by decide +kernel)) rfl
theorem lk_X11_221 : xLk RX11 221 m_X11_isTerm := xTbl_in (List.mem_of_getElem? (i := 1251) (by decide +kernel)) rfl
theorem lk_X11_165 : xLk RX11 165 m_X11_canHear := xTbl_in (List.mem_of_getElem? (i := 1255) (by decide +kernel)) rfl
theorem lk_X11_148 : xLk RX11 148 m_X11_canBear := xTbl_in (List.mem_of_getElem? (i := 1259) (by decide +kernel)) rfl
theorem lk_RL_68 : xLk RL 68 m_X11_give := xTbl_in (List.mem_of_getElem? (i := 1263) (by decide +kernel)) rfl
theorem lk_X11_174 : xLk RX11 174 m_X11_sentences := xTbl_in (List.mem_of_getElem? (i := 1267) (by decide +kernel)) rfl
theorem lk_X11_151 : xLk RX11 151 m_X11_becomesOf := xTbl_in (List.mem_of_getElem? (i := 1271) (by decide +kernel)) rfl
theorem lk_X11_155 : xLk RX11 155 m_X11_becomesCase := xTbl_in (List.mem_of_getElem? (i := 1275) (by decide +kernel)) rfl
theorem lk_X11_225 : xLk RX11 225 m_X11_settles := xTbl_in (List.mem_of_getElem? (i := 1279) (by decide +kernel)) rfl
theorem lk_RL_72 : xLk RL 72 m_X11_appeal := xTbl_in (List.mem_of_getElem? (i := 1283) (by decide +kernel)) rfl
theorem lk_X11_228 : xLk RX11 228 m_X11_appeals := xTbl_in (List.mem_of_getElem? (i := 1287) (by decide +kernel)) rfl
theorem lk_X11_158 : xLk RX11 158 m_X11_lesser := xTbl_in (List.mem_of_getElem? (i := 1291) (by decide +kernel)) rfl
theorem lk_RL_76 : xLk RL 76 m_X11_days := xTbl_in (List.mem_of_getElem? (i := 1294) (by decide +kernel)) rfl
theorem lk_X11_180 : xLk RX11 180 m_X11_dayGoes := xTbl_in (List.mem_of_getElem? (i := 1299) (by decide +kernel)) rfl
theorem lk_RL_80 : xLk RL 80 m_X11_docket := xTbl_in (List.mem_of_getElem? (i := 1303) (by decide +kernel)) rfl
theorem lk_X11_189 : xLk RX11 189 m_X11_docketGoes := xTbl_in (List.mem_of_getElem? (i := 1307) (by decide +kernel)) rfl
theorem lk_X11_171 : xLk RX11 171 m_X11_firstFor := xTbl_in (List.mem_of_getElem? (i := 1311) (by decide +kernel)) rfl
theorem lk_X11_233 : xLk RX11 233 m_X11_allOf := xTbl_in (List.mem_of_getElem? (i := 1315) (by decide +kernel)) rfl
theorem lk_RL_84 : xLk RL 84 m_X11_hears := xTbl_in (List.mem_of_getElem? (i := 1319) (by decide +kernel)) rfl
theorem lk_X11_236 : xLk RX11 236 m_X11_docketHears := xTbl_in (List.mem_of_getElem? (i := 1323) (by decide +kernel)) rfl
theorem lk_X11_186 : xLk RX11 186 m_X11_bitsOf := xTbl_in (List.mem_of_getElem? (i := 1327) (by decide +kernel)) rfl
theorem lk_RL_88 : xLk RL 88 m_X11_best := xTbl_in (List.mem_of_getElem? (i := 1330) (by decide +kernel)) rfl
theorem lk_X11_245 : xLk RX11 245 m_X11_isPart := xTbl_in (List.mem_of_getElem? (i := 1334) (by decide +kernel)) rfl
theorem lk_X11_239 : xLk RX11 239 m_X11_powerOf := xTbl_in (List.mem_of_getElem? (i := 1338) (by decide +kernel)) rfl
theorem lk_X11_249 : xLk RX11 249 m_X11_hearsBy := xTbl_in (List.mem_of_getElem? (i := 1342) (by decide +kernel)) rfl
theorem lk_X11_242 : xLk RX11 242 m_X11_caseIn := xTbl_in (List.mem_of_getElem? (i := 1346) (by decide +kernel)) rfl
theorem lk_RL_92 : xLk RL 92 m_X11_deter := xTbl_in (List.mem_of_getElem? (i := 1350) (by decide +kernel)) rfl
theorem lk_RL_96 : xLk RL 96 m_X11_order := xTbl_in (List.mem_of_getElem? (i := 1354) (by decide +kernel)) rfl
theorem lk_X11_252 : xLk RX11 252 m_X11_isOrder := xTbl_in (List.mem_of_getElem? (i := 1358) (by decide +kernel)) rfl
theorem lk_RL_100 : xLk RL 100 m_X11_spare := xTbl_in (List.mem_of_getElem? (i := 1362) (by decide +kernel)) rfl
theorem lk_RL_104 : xLk RL 104 m_X11_hopeless := xTbl_in (List.mem_of_getElem? (i := 1366) (by decide +kernel)) rfl
theorem lk_RL_109 : xLk RL 109 m_X11_mean := xTbl_in (List.mem_of_getElem? (i := 1370) (by decide +kernel)) rfl
theorem lk_X11_273 : xLk RX11 273 m_X11_findOdds := xTbl_in (List.mem_of_getElem? (i := 1376) (by decide +kernel)) rfl
theorem lk_X11_277 : xLk RX11 277 m_X11_told := xTbl_in (List.mem_of_getElem? (i := 1380) (by decide +kernel)) rfl
theorem lk_X11_255 : xLk RX11 255 m_X11_common := xTbl_in (List.mem_of_getElem? (i := 1383) (by decide +kernel)) rfl
theorem lk_RL_114 : xLk RL 114 m_X11_luck := xTbl_in (List.mem_of_getElem? (i := 1386) (by decide +kernel)) rfl
theorem lk_RL_118 : xLk RL 118 m_X11_see := xTbl_in (List.mem_of_getElem? (i := 1390) (by decide +kernel)) rfl
theorem lk_RL_122 : xLk RL 122 m_X11_forget := xTbl_in (List.mem_of_getElem? (i := 1394) (by decide +kernel)) rfl
theorem lk_RL_126 : xLk RL 126 m_X11_kinds := xTbl_in (List.mem_of_getElem? (i := 1398) (by decide +kernel)) rfl
theorem lk_X11_284 : xLk RX11 284 m_X11_kindsOf := xTbl_in (List.mem_of_getElem? (i := 1402) (by decide +kernel)) rfl
theorem lk_X11_281 : xLk RX11 281 m_X11_couldBe := xTbl_in (List.mem_of_getElem? (i := 1406) (by decide +kernel)) rfl
theorem lk_RL_130 : xLk RL 130 m_X11_terms := xTbl_in (List.mem_of_getElem? (i := 1410) (by decide +kernel)) rfl
theorem lk_X11_295 : xLk RX11 295 m_X11_isTermSo := xTbl_in (List.mem_of_getElem? (i := 1415) (by decide +kernel)) rfl
theorem lk_X11_287 : xLk RX11 287 m_X11_isSo := xTbl_in (List.mem_of_getElem? (i := 1419) (by decide +kernel)) rfl
theorem lk_X11_290 : xLk RX11 290 m_X11_isSeenIn := xTbl_in (List.mem_of_getElem? (i := 1423) (by decide +kernel)) rfl
theorem lk_RL_134 : xLk RL 134 m_X11_ask := xTbl_in (List.mem_of_getElem? (i := 1427) (by decide +kernel)) rfl
theorem lk_RL_138 : xLk RL 138 m_X11_drift := xTbl_in (List.mem_of_getElem? (i := 1431) (by decide +kernel)) rfl
theorem lk_RL_142 : xLk RL 142 m_X11_keep := xTbl_in (List.mem_of_getElem? (i := 1436) (by decide +kernel)) rfl
theorem lk_X11_299 : xLk RX11 299 m_X11_copies := xTbl_in (List.mem_of_getElem? (i := 1440) (by decide +kernel)) rfl
theorem lk_RL_146 : xLk RL 146 m_X11_back := xTbl_in (List.mem_of_getElem? (i := 1444) (by decide +kernel)) rfl
theorem lk_RL_150 : xLk RL 150 m_X11_sheet := xTbl_in (List.mem_of_getElem? (i := 1448) (by decide +kernel)) rfl
theorem lk_X11_302 : xLk RX11 302 m_X11_isSheet := xTbl_in (List.mem_of_getElem? (i := 1452) (by decide +kernel)) rfl
theorem lk_RL_154 : xLk RL 154 m_X11_lay := xTbl_in (List.mem_of_getElem? (i := 1455) (by decide +kernel)) rfl
theorem lk_RL_159 : xLk RL 159 m_X11_read := xTbl_in (List.mem_of_getElem? (i := 1459) (by decide +kernel)) rfl
theorem lk_X11_307 : xLk RX11 307 m_X11_give := xTbl_in (List.mem_of_getElem? (i := 1464) (by decide +kernel)) rfl
theorem lk_RL_163 : xLk RL 163 m_X11_torn := xTbl_in (List.mem_of_getElem? (i := 1465) (by decide +kernel)) rfl
theorem lk_RL_167 : xLk RL 167 m_X11_count := xTbl_in (List.mem_of_getElem? (i := 1469) (by decide +kernel)) rfl
theorem ln_X1_17 : xLkN RX1 17 m_X4_init := List.mem_of_getElem? (i := 0) rfl
theorem ln_X1_24 : xLkN RX1 24 m_X8_init := List.mem_of_getElem? (i := 1) rfl
theorem ln_X1_31 : xLkN RX1 31 m_X7_init := List.mem_of_getElem? (i := 2) rfl
theorem ln_X9_106 : xLkN RX9 106 m_X10_within := List.mem_of_getElem? (i := 3) rfl
theorem ln_X8_37 : xLkN RX8 37 m_X10_within := List.mem_of_getElem? (i := 4) rfl
theorem ln_X1_108 : xLkN RX1 108 m_X10_tenthBy := List.mem_of_getElem? (i := 5) rfl
theorem ln_X1_129 : xLkN RX1 129 m_X10_lessCrime := List.mem_of_getElem? (i := 6) rfl
theorem ln_X1_147 : xLkN RX1 147 m_X10_moreCrime := List.mem_of_getElem? (i := 7) rfl
theorem ln_X5_64 : xLkN RX5 64 m_X10_lessCrime := List.mem_of_getElem? (i := 8) rfl
theorem ln_X2_32 : xLkN RX2 32 m_X10_seatIn := List.mem_of_getElem? (i := 9) rfl
theorem ln_X0_57 : xLkN RX0 57 m_X10_tenthBy := List.mem_of_getElem? (i := 10) rfl
theorem oi_ins : Cond.instanceMethod Lib.objectInit ∈ xTbl := xTbl_in (List.mem_of_getElem? (i := 91) (by decide +kernel)) rfl
theorem oi_code : Cond.code Lib.objectInit ⟨#[0xb1]⟩ 1 none ∈ xTbl := xTbl_in (List.mem_of_getElem? (i := 92) (by decide +kernel)) rfl
theorem oi_X10_1 : Cond.methodLink RX10 1 Lib.objectInit ∈ xTbl := xTbl_in (List.mem_of_getElem? (i := 90) (by decide +kernel)) rfl
theorem oi_X1_3 : Cond.methodLink RX1 3 Lib.objectInit ∈ xTbl := xTbl_in (List.mem_of_getElem? (i := 98) (by decide +kernel)) rfl
theorem oi_X4_3 : Cond.methodLink RX4 3 Lib.objectInit ∈ xTbl := xTbl_in (List.mem_of_getElem? (i := 105) (by decide +kernel)) rfl
theorem oi_X8_3 : Cond.methodLink RX8 3 Lib.objectInit ∈ xTbl := xTbl_in (List.mem_of_getElem? (i := 138) (by decide +kernel)) rfl
theorem oi_X7_1 : Cond.methodLink RX7 1 Lib.objectInit ∈ xTbl := xTbl_in (List.mem_of_getElem? (i := 182) (by decide +kernel)) rfl
theorem oi_X3_1 : Cond.methodLink RX3 1 Lib.objectInit ∈ xTbl := xTbl_in (List.mem_of_getElem? (i := 248) (by decide +kernel)) rfl
theorem oi_X9_3 : Cond.methodLink RX9 3 Lib.objectInit ∈ xTbl := xTbl_in (List.mem_of_getElem? (i := 265) (by decide +kernel)) rfl
theorem oi_X2_3 : Cond.methodLink RX2 3 Lib.objectInit ∈ xTbl := xTbl_in (List.mem_of_getElem? (i := 303) (by decide +kernel)) rfl
theorem oi_X5_3 : Cond.methodLink RX5 3 Lib.objectInit ∈ xTbl := xTbl_in (List.mem_of_getElem? (i := 333) (by decide +kernel)) rfl
theorem oi_X0_3 : Cond.methodLink RX0 3 Lib.objectInit ∈ xTbl := xTbl_in (List.mem_of_getElem? (i := 354) (by decide +kernel)) rfl
theorem oi_X6_3 : Cond.methodLink RX6 3 Lib.objectInit ∈ xTbl := xTbl_in (List.mem_of_getElem? (i := 365) (by decide +kernel)) rfl
theorem oi_X11_1 : Cond.methodLink RX11 1 Lib.objectInit ∈ xTbl := xTbl_in (List.mem_of_getElem? (i := 1009) (by decide +kernel)) rfl
theorem mm_max_sta : Cond.static Lib.Math.max.name ∈ xTbl := xTbl_in (List.mem_of_getElem? (i := 710) (by decide +kernel)) rfl
theorem mm_max_code : Cond.code Lib.Math.max.name Lib.Math.max.code 2 (some .int) ∈ xTbl := xTbl_in (List.mem_of_getElem? (i := 711) (by decide +kernel)) rfl
theorem mm_X10_335 : Cond.methodLink RX10 335 Lib.Math.max.name ∈ xTbl := xTbl_in (List.mem_of_getElem? (i := 709) (by decide +kernel)) rfl
theorem mm_min_sta : Cond.static Lib.Math.min.name ∈ xTbl := xTbl_in (List.mem_of_getElem? (i := 725) (by decide +kernel)) rfl
theorem mm_min_code : Cond.code Lib.Math.min.name Lib.Math.min.code 2 (some .int) ∈ xTbl := xTbl_in (List.mem_of_getElem? (i := 726) (by decide +kernel)) rfl
theorem mm_X4_27 : Cond.methodLink RX4 27 Lib.Math.min.name ∈ xTbl := xTbl_in (List.mem_of_getElem? (i := 724) (by decide +kernel)) rfl
theorem mm_X10_340 : Cond.methodLink RX10 340 Lib.Math.min.name ∈ xTbl := xTbl_in (List.mem_of_getElem? (i := 730) (by decide +kernel)) rfl
theorem mm_X1_150 : Cond.methodLink RX1 150 Lib.Math.min.name ∈ xTbl := xTbl_in (List.mem_of_getElem? (i := 739) (by decide +kernel)) rfl
theorem mm_ini : Cond.initialized "java/lang/Math" ∈ xTbl := xTbl_in (List.mem_of_getElem? (i := 83) (by decide +kernel)) rfl
theorem cw_X0 : ∀ w ∈ u_ws RX0 TX0 1, w ∈ xTbl := by
  intro w hw
  obtain ⟨k, hk, rfl⟩ := List.mem_map.mp hw
  have hk := List.mem_range.mp hk
  have h : ∀ k, k < 1 → u_lay RX0 TX0 k = (lw_tbl[([356] : List Nat).getD k 0]?).getD .tt ∧ (lw_tbl[([356] : List Nat).getD k 0]?).isSome = true ∧ goodWord (u_lay RX0 TX0 k) = true := by decide +kernel
  obtain ⟨h1, h2, h3⟩ := h k hk
  refine xTbl_in ?_ h3
  obtain ⟨x, hx⟩ := Option.isSome_iff_exists.mp h2
  rw [h1, hx]
  exact List.mem_of_getElem? hx
theorem cw_X1 : ∀ w ∈ u_ws RX1 TX1 8, w ∈ xTbl := by
  intro w hw
  obtain ⟨k, hk, rfl⟩ := List.mem_map.mp hw
  have hk := List.mem_range.mp hk
  have h : ∀ k, k < 8 → u_lay RX1 TX1 k = (lw_tbl[([225, 227, 229, 231, 233, 235, 237, 239] : List Nat).getD k 0]?).getD .tt ∧ (lw_tbl[([225, 227, 229, 231, 233, 235, 237, 239] : List Nat).getD k 0]?).isSome = true ∧ goodWord (u_lay RX1 TX1 k) = true := by decide +kernel
  obtain ⟨h1, h2, h3⟩ := h k hk
  refine xTbl_in ?_ h3
  obtain ⟨x, hx⟩ := Option.isSome_iff_exists.mp h2
  rw [h1, hx]
  exact List.mem_of_getElem? hx
theorem cw_X2 : ∀ w ∈ u_ws RX2 TX2 6, w ∈ xTbl := by
  intro w hw
  obtain ⟨k, hk, rfl⟩ := List.mem_map.mp hw
  have hk := List.mem_range.mp hk
  have h : ∀ k, k < 6 → u_lay RX2 TX2 k = (lw_tbl[([314, 316, 318, 320, 322, 324] : List Nat).getD k 0]?).getD .tt ∧ (lw_tbl[([314, 316, 318, 320, 322, 324] : List Nat).getD k 0]?).isSome = true ∧ goodWord (u_lay RX2 TX2 k) = true := by decide +kernel
  obtain ⟨h1, h2, h3⟩ := h k hk
  refine xTbl_in ?_ h3
  obtain ⟨x, hx⟩ := Option.isSome_iff_exists.mp h2
  rw [h1, hx]
  exact List.mem_of_getElem? hx
theorem cw_X3 : ∀ w ∈ u_ws RX3 TX3 2, w ∈ xTbl := by
  intro w hw
  obtain ⟨k, hk, rfl⟩ := List.mem_map.mp hw
  have hk := List.mem_range.mp hk
  have h : ∀ k, k < 2 → u_lay RX3 TX3 k = (lw_tbl[([255, 257] : List Nat).getD k 0]?).getD .tt ∧ (lw_tbl[([255, 257] : List Nat).getD k 0]?).isSome = true ∧ goodWord (u_lay RX3 TX3 k) = true := by decide +kernel
  obtain ⟨h1, h2, h3⟩ := h k hk
  refine xTbl_in ?_ h3
  obtain ⟨x, hx⟩ := Option.isSome_iff_exists.mp h2
  rw [h1, hx]
  exact List.mem_of_getElem? hx
theorem cw_X4 : ∀ w ∈ u_ws RX4 TX4 5, w ∈ xTbl := by
  intro w hw
  obtain ⟨k, hk, rfl⟩ := List.mem_map.mp hw
  have hk := List.mem_range.mp hk
  have h : ∀ k, k < 5 → u_lay RX4 TX4 k = (lw_tbl[([121, 123, 125, 127, 129] : List Nat).getD k 0]?).getD .tt ∧ (lw_tbl[([121, 123, 125, 127, 129] : List Nat).getD k 0]?).isSome = true ∧ goodWord (u_lay RX4 TX4 k) = true := by decide +kernel
  obtain ⟨h1, h2, h3⟩ := h k hk
  refine xTbl_in ?_ h3
  obtain ⟨x, hx⟩ := Option.isSome_iff_exists.mp h2
  rw [h1, hx]
  exact List.mem_of_getElem? hx
theorem cw_X5 : ∀ w ∈ u_ws RX5 TX5 4, w ∈ xTbl := by
  intro w hw
  obtain ⟨k, hk, rfl⟩ := List.mem_map.mp hw
  have hk := List.mem_range.mp hk
  have h : ∀ k, k < 4 → u_lay RX5 TX5 k = (lw_tbl[([340, 342, 344, 346] : List Nat).getD k 0]?).getD .tt ∧ (lw_tbl[([340, 342, 344, 346] : List Nat).getD k 0]?).isSome = true ∧ goodWord (u_lay RX5 TX5 k) = true := by decide +kernel
  obtain ⟨h1, h2, h3⟩ := h k hk
  refine xTbl_in ?_ h3
  obtain ⟨x, hx⟩ := Option.isSome_iff_exists.mp h2
  rw [h1, hx]
  exact List.mem_of_getElem? hx
theorem cw_X6 : ∀ w ∈ u_ws RX6 TX6 4, w ∈ xTbl := by
  intro w hw
  obtain ⟨k, hk, rfl⟩ := List.mem_map.mp hw
  have hk := List.mem_range.mp hk
  have h : ∀ k, k < 4 → u_lay RX6 TX6 k = (lw_tbl[([372, 374, 376, 378] : List Nat).getD k 0]?).getD .tt ∧ (lw_tbl[([372, 374, 376, 378] : List Nat).getD k 0]?).isSome = true ∧ goodWord (u_lay RX6 TX6 k) = true := by decide +kernel
  obtain ⟨h1, h2, h3⟩ := h k hk
  refine xTbl_in ?_ h3
  obtain ⟨x, hx⟩ := Option.isSome_iff_exists.mp h2
  rw [h1, hx]
  exact List.mem_of_getElem? hx
theorem cw_X7 : ∀ w ∈ u_ws RX7 TX7 3, w ∈ xTbl := by
  intro w hw
  obtain ⟨k, hk, rfl⟩ := List.mem_map.mp hw
  have hk := List.mem_range.mp hk
  have h : ∀ k, k < 3 → u_lay RX7 TX7 k = (lw_tbl[([192, 194, 196] : List Nat).getD k 0]?).getD .tt ∧ (lw_tbl[([192, 194, 196] : List Nat).getD k 0]?).isSome = true ∧ goodWord (u_lay RX7 TX7 k) = true := by decide +kernel
  obtain ⟨h1, h2, h3⟩ := h k hk
  refine xTbl_in ?_ h3
  obtain ⟨x, hx⟩ := Option.isSome_iff_exists.mp h2
  rw [h1, hx]
  exact List.mem_of_getElem? hx
theorem cw_X8 : ∀ w ∈ u_ws RX8 TX8 7, w ∈ xTbl := by
  intro w hw
  obtain ⟨k, hk, rfl⟩ := List.mem_map.mp hw
  have hk := List.mem_range.mp hk
  have h : ∀ k, k < 7 → u_lay RX8 TX8 k = (lw_tbl[([161, 163, 165, 167, 169, 171, 173] : List Nat).getD k 0]?).getD .tt ∧ (lw_tbl[([161, 163, 165, 167, 169, 171, 173] : List Nat).getD k 0]?).isSome = true ∧ goodWord (u_lay RX8 TX8 k) = true := by decide +kernel
  obtain ⟨h1, h2, h3⟩ := h k hk
  refine xTbl_in ?_ h3
  obtain ⟨x, hx⟩ := Option.isSome_iff_exists.mp h2
  rw [h1, hx]
  exact List.mem_of_getElem? hx
theorem cw_X9 : ∀ w ∈ u_ws RX9 TX9 9, w ∈ xTbl := by
  intro w hw
  obtain ⟨k, hk, rfl⟩ := List.mem_map.mp hw
  have hk := List.mem_range.mp hk
  have h : ∀ k, k < 9 → u_lay RX9 TX9 k = (lw_tbl[([278, 280, 282, 284, 286, 288, 290, 292, 294] : List Nat).getD k 0]?).getD .tt ∧ (lw_tbl[([278, 280, 282, 284, 286, 288, 290, 292, 294] : List Nat).getD k 0]?).isSome = true ∧ goodWord (u_lay RX9 TX9 k) = true := by decide +kernel
  obtain ⟨h1, h2, h3⟩ := h k hk
  refine xTbl_in ?_ h3
  obtain ⟨x, hx⟩ := Option.isSome_iff_exists.mp h2
  rw [h1, hx]
  exact List.mem_of_getElem? hx
theorem cw_X10 : ∀ w ∈ u_ws RX10 TX10 9, w ∈ xTbl := by
  intro w hw
  obtain ⟨k, hk, rfl⟩ := List.mem_map.mp hw
  have hk := List.mem_range.mp hk
  have h : ∀ k, k < 9 → u_lay RX10 TX10 k = (lw_tbl[([390, 392, 394, 396, 398, 400, 402, 404, 406] : List Nat).getD k 0]?).getD .tt ∧ (lw_tbl[([390, 392, 394, 396, 398, 400, 402, 404, 406] : List Nat).getD k 0]?).isSome = true ∧ goodWord (u_lay RX10 TX10 k) = true := by decide +kernel
  obtain ⟨h1, h2, h3⟩ := h k hk
  refine xTbl_in ?_ h3
  obtain ⟨x, hx⟩ := Option.isSome_iff_exists.mp h2
  rw [h1, hx]
  exact List.mem_of_getElem? hx
theorem cw_X11 : ∀ w ∈ u_ws RX11 TX11 28, w ∈ xTbl := by
  intro w hw
  obtain ⟨k, hk, rfl⟩ := List.mem_map.mp hw
  have hk := List.mem_range.mp hk
  have h : ∀ k, k < 28 → u_lay RX11 TX11 k = (lw_tbl[([1046, 1048, 1050, 1052, 1054, 1056, 1058, 1060, 1062, 1064, 1066, 1068, 1070, 1072, 1074, 1076, 1078, 1080, 1082, 1084, 1086, 1088, 1090, 1092, 1094, 1096, 1098, 1100] : List Nat).getD k 0]?).getD .tt ∧ (lw_tbl[([1046, 1048, 1050, 1052, 1054, 1056, 1058, 1060, 1062, 1064, 1066, 1068, 1070, 1072, 1074, 1076, 1078, 1080, 1082, 1084, 1086, 1088, 1090, 1092, 1094, 1096, 1098, 1100] : List Nat).getD k 0]?).isSome = true ∧ goodWord (u_lay RX11 TX11 k) = true := by decide +kernel
  obtain ⟨h1, h2, h3⟩ := h k hk
  refine xTbl_in ?_ h3
  obtain ⟨x, hx⟩ := Option.isSome_iff_exists.mp h2
  rw [h1, hx]
  exact List.mem_of_getElem? hx
theorem ff_X4_9 : xFF RX4 9 4 0 .int false := ⟨RX4, TX4, tyX4, ⟨rfl, cw_X4, tyX4_ok, nmX4, by decide, rfl, tyX4_ok 0 (by decide), xTbl_in (List.mem_of_getElem? (i := 106) (by decide +kernel)) rfl⟩⟩
theorem ff_X10_115 : xFF RX10 115 4 0 .int false := ⟨RX4, TX4, tyX4, ⟨rfl, cw_X4, tyX4_ok, nmX4, by decide, rfl, tyX4_ok 0 (by decide), xTbl_in (List.mem_of_getElem? (i := 107) (by decide +kernel)) rfl⟩⟩
theorem ff_X1_105 : xFF RX1 105 4 0 .int false := ⟨RX4, TX4, tyX4, ⟨rfl, cw_X4, tyX4_ok, nmX4, by decide, rfl, tyX4_ok 0 (by decide), xTbl_in (List.mem_of_getElem? (i := 108) (by decide +kernel)) rfl⟩⟩
theorem ff_X4_15 : xFF RX4 15 4 1 .int false := ⟨RX4, TX4, tyX4, ⟨rfl, cw_X4, tyX4_ok, nmX4, by decide, rfl, tyX4_ok 1 (by decide), xTbl_in (List.mem_of_getElem? (i := 109) (by decide +kernel)) rfl⟩⟩
theorem ff_X10_120 : xFF RX10 120 4 1 .int false := ⟨RX4, TX4, tyX4, ⟨rfl, cw_X4, tyX4_ok, nmX4, by decide, rfl, tyX4_ok 1 (by decide), xTbl_in (List.mem_of_getElem? (i := 110) (by decide +kernel)) rfl⟩⟩
theorem ff_X1_171 : xFF RX1 171 4 1 .int false := ⟨RX4, TX4, tyX4, ⟨rfl, cw_X4, tyX4_ok, nmX4, by decide, rfl, tyX4_ok 1 (by decide), xTbl_in (List.mem_of_getElem? (i := 111) (by decide +kernel)) rfl⟩⟩
theorem ff_X4_18 : xFF RX4 18 4 2 .int false := ⟨RX4, TX4, tyX4, ⟨rfl, cw_X4, tyX4_ok, nmX4, by decide, rfl, tyX4_ok 2 (by decide), xTbl_in (List.mem_of_getElem? (i := 112) (by decide +kernel)) rfl⟩⟩
theorem ff_X10_123 : xFF RX10 123 4 2 .int false := ⟨RX4, TX4, tyX4, ⟨rfl, cw_X4, tyX4_ok, nmX4, by decide, rfl, tyX4_ok 2 (by decide), xTbl_in (List.mem_of_getElem? (i := 113) (by decide +kernel)) rfl⟩⟩
theorem ff_X1_168 : xFF RX1 168 4 2 .int false := ⟨RX4, TX4, tyX4, ⟨rfl, cw_X4, tyX4_ok, nmX4, by decide, rfl, tyX4_ok 2 (by decide), xTbl_in (List.mem_of_getElem? (i := 114) (by decide +kernel)) rfl⟩⟩
theorem ff_X4_21 : xFF RX4 21 4 3 .int false := ⟨RX4, TX4, tyX4, ⟨rfl, cw_X4, tyX4_ok, nmX4, by decide, rfl, tyX4_ok 3 (by decide), xTbl_in (List.mem_of_getElem? (i := 115) (by decide +kernel)) rfl⟩⟩
theorem ff_X10_126 : xFF RX10 126 4 3 .int false := ⟨RX4, TX4, tyX4, ⟨rfl, cw_X4, tyX4_ok, nmX4, by decide, rfl, tyX4_ok 3 (by decide), xTbl_in (List.mem_of_getElem? (i := 116) (by decide +kernel)) rfl⟩⟩
theorem ff_X1_99 : xFF RX1 99 4 3 .int false := ⟨RX4, TX4, tyX4, ⟨rfl, cw_X4, tyX4_ok, nmX4, by decide, rfl, tyX4_ok 3 (by decide), xTbl_in (List.mem_of_getElem? (i := 117) (by decide +kernel)) rfl⟩⟩
theorem ff_X4_24 : xFF RX4 24 4 4 .int false := ⟨RX4, TX4, tyX4, ⟨rfl, cw_X4, tyX4_ok, nmX4, by decide, rfl, tyX4_ok 4 (by decide), xTbl_in (List.mem_of_getElem? (i := 118) (by decide +kernel)) rfl⟩⟩
theorem ff_X10_129 : xFF RX10 129 4 4 .int false := ⟨RX4, TX4, tyX4, ⟨rfl, cw_X4, tyX4_ok, nmX4, by decide, rfl, tyX4_ok 4 (by decide), xTbl_in (List.mem_of_getElem? (i := 119) (by decide +kernel)) rfl⟩⟩
theorem ff_X1_174 : xFF RX1 174 4 4 .int false := ⟨RX4, TX4, tyX4, ⟨rfl, cw_X4, tyX4_ok, nmX4, by decide, rfl, tyX4_ok 4 (by decide), xTbl_in (List.mem_of_getElem? (i := 120) (by decide +kernel)) rfl⟩⟩
theorem ff_X8_9 : xFF RX8 9 8 0 .int false := ⟨RX8, TX8, tyX8, ⟨rfl, cw_X8, tyX8_ok, nmX8, by decide, rfl, tyX8_ok 0 (by decide), xTbl_in (List.mem_of_getElem? (i := 139) (by decide +kernel)) rfl⟩⟩
theorem ff_X10_140 : xFF RX10 140 8 0 .int false := ⟨RX8, TX8, tyX8, ⟨rfl, cw_X8, tyX8_ok, nmX8, by decide, rfl, tyX8_ok 0 (by decide), xTbl_in (List.mem_of_getElem? (i := 140) (by decide +kernel)) rfl⟩⟩
theorem ff_X1_102 : xFF RX1 102 8 0 .int false := ⟨RX8, TX8, tyX8, ⟨rfl, cw_X8, tyX8_ok, nmX8, by decide, rfl, tyX8_ok 0 (by decide), xTbl_in (List.mem_of_getElem? (i := 141) (by decide +kernel)) rfl⟩⟩
theorem ff_X8_15 : xFF RX8 15 8 1 .int false := ⟨RX8, TX8, tyX8, ⟨rfl, cw_X8, tyX8_ok, nmX8, by decide, rfl, tyX8_ok 1 (by decide), xTbl_in (List.mem_of_getElem? (i := 142) (by decide +kernel)) rfl⟩⟩
theorem ff_X5_55 : xFF RX5 55 8 1 .int false := ⟨RX8, TX8, tyX8, ⟨rfl, cw_X8, tyX8_ok, nmX8, by decide, rfl, tyX8_ok 1 (by decide), xTbl_in (List.mem_of_getElem? (i := 143) (by decide +kernel)) rfl⟩⟩
theorem ff_X0_49 : xFF RX0 49 8 1 .int false := ⟨RX8, TX8, tyX8, ⟨rfl, cw_X8, tyX8_ok, nmX8, by decide, rfl, tyX8_ok 1 (by decide), xTbl_in (List.mem_of_getElem? (i := 144) (by decide +kernel)) rfl⟩⟩
theorem ff_X10_145 : xFF RX10 145 8 1 .int false := ⟨RX8, TX8, tyX8, ⟨rfl, cw_X8, tyX8_ok, nmX8, by decide, rfl, tyX8_ok 1 (by decide), xTbl_in (List.mem_of_getElem? (i := 145) (by decide +kernel)) rfl⟩⟩
theorem ff_X1_116 : xFF RX1 116 8 1 .int false := ⟨RX8, TX8, tyX8, ⟨rfl, cw_X8, tyX8_ok, nmX8, by decide, rfl, tyX8_ok 1 (by decide), xTbl_in (List.mem_of_getElem? (i := 146) (by decide +kernel)) rfl⟩⟩
theorem ff_X8_18 : xFF RX8 18 8 2 .int false := ⟨RX8, TX8, tyX8, ⟨rfl, cw_X8, tyX8_ok, nmX8, by decide, rfl, tyX8_ok 2 (by decide), xTbl_in (List.mem_of_getElem? (i := 147) (by decide +kernel)) rfl⟩⟩
theorem ff_X0_54 : xFF RX0 54 8 2 .int false := ⟨RX8, TX8, tyX8, ⟨rfl, cw_X8, tyX8_ok, nmX8, by decide, rfl, tyX8_ok 2 (by decide), xTbl_in (List.mem_of_getElem? (i := 148) (by decide +kernel)) rfl⟩⟩
theorem ff_X10_148 : xFF RX10 148 8 2 .int false := ⟨RX8, TX8, tyX8, ⟨rfl, cw_X8, tyX8_ok, nmX8, by decide, rfl, tyX8_ok 2 (by decide), xTbl_in (List.mem_of_getElem? (i := 149) (by decide +kernel)) rfl⟩⟩
theorem ff_X8_21 : xFF RX8 21 8 3 .int false := ⟨RX8, TX8, tyX8, ⟨rfl, cw_X8, tyX8_ok, nmX8, by decide, rfl, tyX8_ok 3 (by decide), xTbl_in (List.mem_of_getElem? (i := 150) (by decide +kernel)) rfl⟩⟩
theorem ff_X10_151 : xFF RX10 151 8 3 .int false := ⟨RX8, TX8, tyX8, ⟨rfl, cw_X8, tyX8_ok, nmX8, by decide, rfl, tyX8_ok 3 (by decide), xTbl_in (List.mem_of_getElem? (i := 151) (by decide +kernel)) rfl⟩⟩
theorem ff_X1_98 : xFF RX1 98 8 3 .int false := ⟨RX8, TX8, tyX8, ⟨rfl, cw_X8, tyX8_ok, nmX8, by decide, rfl, tyX8_ok 3 (by decide), xTbl_in (List.mem_of_getElem? (i := 152) (by decide +kernel)) rfl⟩⟩
theorem ff_X8_28 : xFF RX8 28 8 4 .int false := ⟨RX8, TX8, tyX8, ⟨rfl, cw_X8, tyX8_ok, nmX8, by decide, rfl, tyX8_ok 4 (by decide), xTbl_in (List.mem_of_getElem? (i := 153) (by decide +kernel)) rfl⟩⟩
theorem ff_X10_152 : xFF RX10 152 8 4 .int false := ⟨RX8, TX8, tyX8, ⟨rfl, cw_X8, tyX8_ok, nmX8, by decide, rfl, tyX8_ok 4 (by decide), xTbl_in (List.mem_of_getElem? (i := 154) (by decide +kernel)) rfl⟩⟩
theorem ff_X1_145 : xFF RX1 145 8 4 .int false := ⟨RX8, TX8, tyX8, ⟨rfl, cw_X8, tyX8_ok, nmX8, by decide, rfl, tyX8_ok 4 (by decide), xTbl_in (List.mem_of_getElem? (i := 155) (by decide +kernel)) rfl⟩⟩
theorem ff_X8_31 : xFF RX8 31 8 5 .int false := ⟨RX8, TX8, tyX8, ⟨rfl, cw_X8, tyX8_ok, nmX8, by decide, rfl, tyX8_ok 5 (by decide), xTbl_in (List.mem_of_getElem? (i := 156) (by decide +kernel)) rfl⟩⟩
theorem ff_X10_155 : xFF RX10 155 8 5 .int false := ⟨RX8, TX8, tyX8, ⟨rfl, cw_X8, tyX8_ok, nmX8, by decide, rfl, tyX8_ok 5 (by decide), xTbl_in (List.mem_of_getElem? (i := 157) (by decide +kernel)) rfl⟩⟩
theorem ff_X1_136 : xFF RX1 136 8 5 .int false := ⟨RX8, TX8, tyX8, ⟨rfl, cw_X8, tyX8_ok, nmX8, by decide, rfl, tyX8_ok 5 (by decide), xTbl_in (List.mem_of_getElem? (i := 158) (by decide +kernel)) rfl⟩⟩
theorem ff_X8_34 : xFF RX8 34 8 6 .int false := ⟨RX8, TX8, tyX8, ⟨rfl, cw_X8, tyX8_ok, nmX8, by decide, rfl, tyX8_ok 6 (by decide), xTbl_in (List.mem_of_getElem? (i := 159) (by decide +kernel)) rfl⟩⟩
theorem ff_X1_139 : xFF RX1 139 8 6 .int false := ⟨RX8, TX8, tyX8, ⟨rfl, cw_X8, tyX8_ok, nmX8, by decide, rfl, tyX8_ok 6 (by decide), xTbl_in (List.mem_of_getElem? (i := 160) (by decide +kernel)) rfl⟩⟩
theorem ff_X7_7 : xFF RX7 7 7 0 .int false := ⟨RX7, TX7, tyX7, ⟨rfl, cw_X7, tyX7_ok, nmX7, by decide, rfl, tyX7_ok 0 (by decide), xTbl_in (List.mem_of_getElem? (i := 183) (by decide +kernel)) rfl⟩⟩
theorem ff_X0_33 : xFF RX0 33 7 0 .int false := ⟨RX7, TX7, tyX7, ⟨rfl, cw_X7, tyX7_ok, nmX7, by decide, rfl, tyX7_ok 0 (by decide), xTbl_in (List.mem_of_getElem? (i := 184) (by decide +kernel)) rfl⟩⟩
theorem ff_X1_82 : xFF RX1 82 7 0 .int false := ⟨RX7, TX7, tyX7, ⟨rfl, cw_X7, tyX7_ok, nmX7, by decide, rfl, tyX7_ok 0 (by decide), xTbl_in (List.mem_of_getElem? (i := 185) (by decide +kernel)) rfl⟩⟩
theorem ff_X7_13 : xFF RX7 13 7 1 .int false := ⟨RX7, TX7, tyX7, ⟨rfl, cw_X7, tyX7_ok, nmX7, by decide, rfl, tyX7_ok 1 (by decide), xTbl_in (List.mem_of_getElem? (i := 186) (by decide +kernel)) rfl⟩⟩
theorem ff_X0_42 : xFF RX0 42 7 1 .int false := ⟨RX7, TX7, tyX7, ⟨rfl, cw_X7, tyX7_ok, nmX7, by decide, rfl, tyX7_ok 1 (by decide), xTbl_in (List.mem_of_getElem? (i := 187) (by decide +kernel)) rfl⟩⟩
theorem ff_X1_85 : xFF RX1 85 7 1 .int false := ⟨RX7, TX7, tyX7, ⟨rfl, cw_X7, tyX7_ok, nmX7, by decide, rfl, tyX7_ok 1 (by decide), xTbl_in (List.mem_of_getElem? (i := 188) (by decide +kernel)) rfl⟩⟩
theorem ff_X7_16 : xFF RX7 16 7 2 .int false := ⟨RX7, TX7, tyX7, ⟨rfl, cw_X7, tyX7_ok, nmX7, by decide, rfl, tyX7_ok 2 (by decide), xTbl_in (List.mem_of_getElem? (i := 189) (by decide +kernel)) rfl⟩⟩
theorem ff_X0_61 : xFF RX0 61 7 2 .int false := ⟨RX7, TX7, tyX7, ⟨rfl, cw_X7, tyX7_ok, nmX7, by decide, rfl, tyX7_ok 2 (by decide), xTbl_in (List.mem_of_getElem? (i := 190) (by decide +kernel)) rfl⟩⟩
theorem ff_X1_88 : xFF RX1 88 7 2 .int false := ⟨RX7, TX7, tyX7, ⟨rfl, cw_X7, tyX7_ok, nmX7, by decide, rfl, tyX7_ok 2 (by decide), xTbl_in (List.mem_of_getElem? (i := 191) (by decide +kernel)) rfl⟩⟩
theorem ff_X1_11 : xFF RX1 11 1 0 (.array (.object "JudgeFirst$Judge")) true := ⟨RX1, TX1, tyX1, ⟨rfl, cw_X1, tyX1_ok, nmX1, by decide, rfl, tyX1_ok 0 (by decide), xTbl_in (List.mem_of_getElem? (i := 203) (by decide +kernel)) rfl⟩⟩
theorem fp_X1_11 : xFP RX1 11 1 0 (.array (.object "JudgeFirst$Judge")) := ⟨RX1, TX1, tyX1, ⟨rfl, cw_X1, tyX1_ok, nmX1, by decide, rfl, tyX1_ok 0 (by decide), xTbl_in (List.mem_of_getElem? (i := 203) (by decide +kernel)) rfl⟩, rfl⟩
theorem ff_X1_20 : xFF RX1 20 1 1 (.array (.object "JudgeFirst$Suit")) true := ⟨RX1, TX1, tyX1, ⟨rfl, cw_X1, tyX1_ok, nmX1, by decide, rfl, tyX1_ok 1 (by decide), xTbl_in (List.mem_of_getElem? (i := 204) (by decide +kernel)) rfl⟩⟩
theorem fp_X1_20 : xFP RX1 20 1 1 (.array (.object "JudgeFirst$Suit")) := ⟨RX1, TX1, tyX1, ⟨rfl, cw_X1, tyX1_ok, nmX1, by decide, rfl, tyX1_ok 1 (by decide), xTbl_in (List.mem_of_getElem? (i := 204) (by decide +kernel)) rfl⟩, rfl⟩
theorem ff_X1_27 : xFF RX1 27 1 2 (.array (.object "JudgeFirst$Sight")) true := ⟨RX1, TX1, tyX1, ⟨rfl, cw_X1, tyX1_ok, nmX1, by decide, rfl, tyX1_ok 2 (by decide), xTbl_in (List.mem_of_getElem? (i := 205) (by decide +kernel)) rfl⟩⟩
theorem fp_X1_27 : xFP RX1 27 1 2 (.array (.object "JudgeFirst$Sight")) := ⟨RX1, TX1, tyX1, ⟨rfl, cw_X1, tyX1_ok, nmX1, by decide, rfl, tyX1_ok 2 (by decide), xTbl_in (List.mem_of_getElem? (i := 205) (by decide +kernel)) rfl⟩, rfl⟩
theorem ff_X1_35 : xFF RX1 35 1 3 .int false := ⟨RX1, TX1, tyX1, ⟨rfl, cw_X1, tyX1_ok, nmX1, by decide, rfl, tyX1_ok 3 (by decide), xTbl_in (List.mem_of_getElem? (i := 206) (by decide +kernel)) rfl⟩⟩
theorem ff_X2_23 : xFF RX2 23 1 3 .int false := ⟨RX1, TX1, tyX1, ⟨rfl, cw_X1, tyX1_ok, nmX1, by decide, rfl, tyX1_ok 3 (by decide), xTbl_in (List.mem_of_getElem? (i := 207) (by decide +kernel)) rfl⟩⟩
theorem ff_X9_73 : xFF RX9 73 1 3 .int false := ⟨RX1, TX1, tyX1, ⟨rfl, cw_X1, tyX1_ok, nmX1, by decide, rfl, tyX1_ok 3 (by decide), xTbl_in (List.mem_of_getElem? (i := 208) (by decide +kernel)) rfl⟩⟩
theorem ff_X0_64 : xFF RX0 64 1 3 .int false := ⟨RX1, TX1, tyX1, ⟨rfl, cw_X1, tyX1_ok, nmX1, by decide, rfl, tyX1_ok 3 (by decide), xTbl_in (List.mem_of_getElem? (i := 209) (by decide +kernel)) rfl⟩⟩
theorem ff_X10_89 : xFF RX10 89 1 3 .int false := ⟨RX1, TX1, tyX1, ⟨rfl, cw_X1, tyX1_ok, nmX1, by decide, rfl, tyX1_ok 3 (by decide), xTbl_in (List.mem_of_getElem? (i := 210) (by decide +kernel)) rfl⟩⟩
theorem ff_X1_39 : xFF RX1 39 1 4 .int false := ⟨RX1, TX1, tyX1, ⟨rfl, cw_X1, tyX1_ok, nmX1, by decide, rfl, tyX1_ok 4 (by decide), xTbl_in (List.mem_of_getElem? (i := 211) (by decide +kernel)) rfl⟩⟩
theorem ff_X5_48 : xFF RX5 48 1 4 .int false := ⟨RX1, TX1, tyX1, ⟨rfl, cw_X1, tyX1_ok, nmX1, by decide, rfl, tyX1_ok 4 (by decide), xTbl_in (List.mem_of_getElem? (i := 212) (by decide +kernel)) rfl⟩⟩
theorem ff_X2_36 : xFF RX2 36 1 4 .int false := ⟨RX1, TX1, tyX1, ⟨rfl, cw_X1, tyX1_ok, nmX1, by decide, rfl, tyX1_ok 4 (by decide), xTbl_in (List.mem_of_getElem? (i := 213) (by decide +kernel)) rfl⟩⟩
theorem ff_X9_88 : xFF RX9 88 1 4 .int false := ⟨RX1, TX1, tyX1, ⟨rfl, cw_X1, tyX1_ok, nmX1, by decide, rfl, tyX1_ok 4 (by decide), xTbl_in (List.mem_of_getElem? (i := 214) (by decide +kernel)) rfl⟩⟩
theorem ff_X10_92 : xFF RX10 92 1 4 .int false := ⟨RX1, TX1, tyX1, ⟨rfl, cw_X1, tyX1_ok, nmX1, by decide, rfl, tyX1_ok 4 (by decide), xTbl_in (List.mem_of_getElem? (i := 215) (by decide +kernel)) rfl⟩⟩
theorem ff_X1_42 : xFF RX1 42 1 5 .int false := ⟨RX1, TX1, tyX1, ⟨rfl, cw_X1, tyX1_ok, nmX1, by decide, rfl, tyX1_ok 5 (by decide), xTbl_in (List.mem_of_getElem? (i := 216) (by decide +kernel)) rfl⟩⟩
theorem ff_X0_23 : xFF RX0 23 1 5 .int false := ⟨RX1, TX1, tyX1, ⟨rfl, cw_X1, tyX1_ok, nmX1, by decide, rfl, tyX1_ok 5 (by decide), xTbl_in (List.mem_of_getElem? (i := 217) (by decide +kernel)) rfl⟩⟩
theorem ff_X10_270 : xFF RX10 270 1 5 .int false := ⟨RX1, TX1, tyX1, ⟨rfl, cw_X1, tyX1_ok, nmX1, by decide, rfl, tyX1_ok 5 (by decide), xTbl_in (List.mem_of_getElem? (i := 218) (by decide +kernel)) rfl⟩⟩
theorem ff_X1_45 : xFF RX1 45 1 6 .int false := ⟨RX1, TX1, tyX1, ⟨rfl, cw_X1, tyX1_ok, nmX1, by decide, rfl, tyX1_ok 6 (by decide), xTbl_in (List.mem_of_getElem? (i := 219) (by decide +kernel)) rfl⟩⟩
theorem ff_X10_95 : xFF RX10 95 1 6 .int false := ⟨RX1, TX1, tyX1, ⟨rfl, cw_X1, tyX1_ok, nmX1, by decide, rfl, tyX1_ok 6 (by decide), xTbl_in (List.mem_of_getElem? (i := 220) (by decide +kernel)) rfl⟩⟩
theorem ff_X5_22 : xFF RX5 22 1 7 .int false := ⟨RX1, TX1, tyX1, ⟨rfl, cw_X1, tyX1_ok, nmX1, by decide, rfl, tyX1_ok 7 (by decide), xTbl_in (List.mem_of_getElem? (i := 221) (by decide +kernel)) rfl⟩⟩
theorem ff_X1_48 : xFF RX1 48 1 7 .int false := ⟨RX1, TX1, tyX1, ⟨rfl, cw_X1, tyX1_ok, nmX1, by decide, rfl, tyX1_ok 7 (by decide), xTbl_in (List.mem_of_getElem? (i := 222) (by decide +kernel)) rfl⟩⟩
theorem ff_X10_98 : xFF RX10 98 1 7 .int false := ⟨RX1, TX1, tyX1, ⟨rfl, cw_X1, tyX1_ok, nmX1, by decide, rfl, tyX1_ok 7 (by decide), xTbl_in (List.mem_of_getElem? (i := 223) (by decide +kernel)) rfl⟩⟩
theorem ff_X9_100 : xFF RX9 100 1 7 .int false := ⟨RX1, TX1, tyX1, ⟨rfl, cw_X1, tyX1_ok, nmX1, by decide, rfl, tyX1_ok 7 (by decide), xTbl_in (List.mem_of_getElem? (i := 224) (by decide +kernel)) rfl⟩⟩
theorem ff_X3_10 : xFF RX3 10 3 0 (.object "JudgeFirst$Court") true := ⟨RX3, TX3, tyX3, ⟨rfl, cw_X3, tyX3_ok, nmX3, by decide, rfl, tyX3_ok 0 (by decide), xTbl_in (List.mem_of_getElem? (i := 251) (by decide +kernel)) rfl⟩⟩
theorem fp_X3_10 : xFP RX3 10 3 0 (.object "JudgeFirst$Court") := ⟨RX3, TX3, tyX3, ⟨rfl, cw_X3, tyX3_ok, nmX3, by decide, rfl, tyX3_ok 0 (by decide), xTbl_in (List.mem_of_getElem? (i := 251) (by decide +kernel)) rfl⟩, rfl⟩
theorem ff_X10_299 : xFF RX10 299 3 0 (.object "JudgeFirst$Court") true := ⟨RX3, TX3, tyX3, ⟨rfl, cw_X3, tyX3_ok, nmX3, by decide, rfl, tyX3_ok 0 (by decide), xTbl_in (List.mem_of_getElem? (i := 252) (by decide +kernel)) rfl⟩⟩
theorem ff_X3_16 : xFF RX3 16 3 1 .boolean false := ⟨RX3, TX3, tyX3, ⟨rfl, cw_X3, tyX3_ok, nmX3, by decide, rfl, tyX3_ok 1 (by decide), xTbl_in (List.mem_of_getElem? (i := 253) (by decide +kernel)) rfl⟩⟩
theorem ff_X10_295 : xFF RX10 295 3 1 .boolean false := ⟨RX3, TX3, tyX3, ⟨rfl, cw_X3, tyX3_ok, nmX3, by decide, rfl, tyX3_ok 1 (by decide), xTbl_in (List.mem_of_getElem? (i := 254) (by decide +kernel)) rfl⟩⟩
theorem ff_X9_9 : xFF RX9 9 9 0 (.array .byte) true := ⟨RX9, TX9, tyX9, ⟨rfl, cw_X9, tyX9_ok, nmX9, by decide, rfl, tyX9_ok 0 (by decide), xTbl_in (List.mem_of_getElem? (i := 266) (by decide +kernel)) rfl⟩⟩
theorem fp_X9_9 : xFP RX9 9 9 0 (.array .byte) := ⟨RX9, TX9, tyX9, ⟨rfl, cw_X9, tyX9_ok, nmX9, by decide, rfl, tyX9_ok 0 (by decide), xTbl_in (List.mem_of_getElem? (i := 266) (by decide +kernel)) rfl⟩, rfl⟩
theorem ff_X9_15 : xFF RX9 15 9 1 .int false := ⟨RX9, TX9, tyX9, ⟨rfl, cw_X9, tyX9_ok, nmX9, by decide, rfl, tyX9_ok 1 (by decide), xTbl_in (List.mem_of_getElem? (i := 267) (by decide +kernel)) rfl⟩⟩
theorem ff_X10_69 : xFF RX10 69 9 1 .int false := ⟨RX9, TX9, tyX9, ⟨rfl, cw_X9, tyX9_ok, nmX9, by decide, rfl, tyX9_ok 1 (by decide), xTbl_in (List.mem_of_getElem? (i := 268) (by decide +kernel)) rfl⟩⟩
theorem ff_X9_19 : xFF RX9 19 9 2 .int false := ⟨RX9, TX9, tyX9, ⟨rfl, cw_X9, tyX9_ok, nmX9, by decide, rfl, tyX9_ok 2 (by decide), xTbl_in (List.mem_of_getElem? (i := 269) (by decide +kernel)) rfl⟩⟩
theorem ff_X10_76 : xFF RX10 76 9 2 .int false := ⟨RX9, TX9, tyX9, ⟨rfl, cw_X9, tyX9_ok, nmX9, by decide, rfl, tyX9_ok 2 (by decide), xTbl_in (List.mem_of_getElem? (i := 270) (by decide +kernel)) rfl⟩⟩
theorem ff_X9_22 : xFF RX9 22 9 3 .int false := ⟨RX9, TX9, tyX9, ⟨rfl, cw_X9, tyX9_ok, nmX9, by decide, rfl, tyX9_ok 3 (by decide), xTbl_in (List.mem_of_getElem? (i := 271) (by decide +kernel)) rfl⟩⟩
theorem ff_X10_79 : xFF RX10 79 9 3 .int false := ⟨RX9, TX9, tyX9, ⟨rfl, cw_X9, tyX9_ok, nmX9, by decide, rfl, tyX9_ok 3 (by decide), xTbl_in (List.mem_of_getElem? (i := 272) (by decide +kernel)) rfl⟩⟩
theorem ff_X9_40 : xFF RX9 40 9 4 .int false := ⟨RX9, TX9, tyX9, ⟨rfl, cw_X9, tyX9_ok, nmX9, by decide, rfl, tyX9_ok 4 (by decide), xTbl_in (List.mem_of_getElem? (i := 273) (by decide +kernel)) rfl⟩⟩
theorem ff_X9_110 : xFF RX9 110 9 5 .int false := ⟨RX9, TX9, tyX9, ⟨rfl, cw_X9, tyX9_ok, nmX9, by decide, rfl, tyX9_ok 5 (by decide), xTbl_in (List.mem_of_getElem? (i := 274) (by decide +kernel)) rfl⟩⟩
theorem ff_X9_30 : xFF RX9 30 9 6 .int false := ⟨RX9, TX9, tyX9, ⟨rfl, cw_X9, tyX9_ok, nmX9, by decide, rfl, tyX9_ok 6 (by decide), xTbl_in (List.mem_of_getElem? (i := 275) (by decide +kernel)) rfl⟩⟩
theorem ff_X9_103 : xFF RX9 103 9 7 .int false := ⟨RX9, TX9, tyX9, ⟨rfl, cw_X9, tyX9_ok, nmX9, by decide, rfl, tyX9_ok 7 (by decide), xTbl_in (List.mem_of_getElem? (i := 276) (by decide +kernel)) rfl⟩⟩
theorem ff_X9_33 : xFF RX9 33 9 8 .boolean false := ⟨RX9, TX9, tyX9, ⟨rfl, cw_X9, tyX9_ok, nmX9, by decide, rfl, tyX9_ok 8 (by decide), xTbl_in (List.mem_of_getElem? (i := 277) (by decide +kernel)) rfl⟩⟩
theorem ff_X2_9 : xFF RX2 9 2 0 (.array .int) true := ⟨RX2, TX2, tyX2, ⟨rfl, cw_X2, tyX2_ok, nmX2, by decide, rfl, tyX2_ok 0 (by decide), xTbl_in (List.mem_of_getElem? (i := 304) (by decide +kernel)) rfl⟩⟩
theorem fp_X2_9 : xFP RX2 9 2 0 (.array .int) := ⟨RX2, TX2, tyX2, ⟨rfl, cw_X2, tyX2_ok, nmX2, by decide, rfl, tyX2_ok 0 (by decide), xTbl_in (List.mem_of_getElem? (i := 304) (by decide +kernel)) rfl⟩, rfl⟩
theorem ff_X2_15 : xFF RX2 15 2 1 .int false := ⟨RX2, TX2, tyX2, ⟨rfl, cw_X2, tyX2_ok, nmX2, by decide, rfl, tyX2_ok 1 (by decide), xTbl_in (List.mem_of_getElem? (i := 305) (by decide +kernel)) rfl⟩⟩
theorem ff_X2_63 : xFF RX2 63 2 2 .int false := ⟨RX2, TX2, tyX2, ⟨rfl, cw_X2, tyX2_ok, nmX2, by decide, rfl, tyX2_ok 2 (by decide), xTbl_in (List.mem_of_getElem? (i := 306) (by decide +kernel)) rfl⟩⟩
theorem ff_X10_199 : xFF RX10 199 2 2 .int false := ⟨RX2, TX2, tyX2, ⟨rfl, cw_X2, tyX2_ok, nmX2, by decide, rfl, tyX2_ok 2 (by decide), xTbl_in (List.mem_of_getElem? (i := 307) (by decide +kernel)) rfl⟩⟩
theorem ff_X2_74 : xFF RX2 74 2 3 .int false := ⟨RX2, TX2, tyX2, ⟨rfl, cw_X2, tyX2_ok, nmX2, by decide, rfl, tyX2_ok 3 (by decide), xTbl_in (List.mem_of_getElem? (i := 308) (by decide +kernel)) rfl⟩⟩
theorem ff_X10_213 : xFF RX10 213 2 3 .int false := ⟨RX2, TX2, tyX2, ⟨rfl, cw_X2, tyX2_ok, nmX2, by decide, rfl, tyX2_ok 3 (by decide), xTbl_in (List.mem_of_getElem? (i := 309) (by decide +kernel)) rfl⟩⟩
theorem ff_X2_49 : xFF RX2 49 2 4 .int false := ⟨RX2, TX2, tyX2, ⟨rfl, cw_X2, tyX2_ok, nmX2, by decide, rfl, tyX2_ok 4 (by decide), xTbl_in (List.mem_of_getElem? (i := 310) (by decide +kernel)) rfl⟩⟩
theorem ff_X10_234 : xFF RX10 234 2 4 .int false := ⟨RX2, TX2, tyX2, ⟨rfl, cw_X2, tyX2_ok, nmX2, by decide, rfl, tyX2_ok 4 (by decide), xTbl_in (List.mem_of_getElem? (i := 311) (by decide +kernel)) rfl⟩⟩
theorem ff_X2_52 : xFF RX2 52 2 5 .int false := ⟨RX2, TX2, tyX2, ⟨rfl, cw_X2, tyX2_ok, nmX2, by decide, rfl, tyX2_ok 5 (by decide), xTbl_in (List.mem_of_getElem? (i := 312) (by decide +kernel)) rfl⟩⟩
theorem ff_X10_235 : xFF RX10 235 2 5 .int false := ⟨RX2, TX2, tyX2, ⟨rfl, cw_X2, tyX2_ok, nmX2, by decide, rfl, tyX2_ok 5 (by decide), xTbl_in (List.mem_of_getElem? (i := 313) (by decide +kernel)) rfl⟩⟩
theorem ff_X5_9 : xFF RX5 9 5 0 (.array .int) true := ⟨RX5, TX5, tyX5, ⟨rfl, cw_X5, tyX5_ok, nmX5, by decide, rfl, tyX5_ok 0 (by decide), xTbl_in (List.mem_of_getElem? (i := 334) (by decide +kernel)) rfl⟩⟩
theorem fp_X5_9 : xFP RX5 9 5 0 (.array .int) := ⟨RX5, TX5, tyX5, ⟨rfl, cw_X5, tyX5_ok, nmX5, by decide, rfl, tyX5_ok 0 (by decide), xTbl_in (List.mem_of_getElem? (i := 334) (by decide +kernel)) rfl⟩, rfl⟩
theorem ff_X5_15 : xFF RX5 15 5 1 (.array .int) true := ⟨RX5, TX5, tyX5, ⟨rfl, cw_X5, tyX5_ok, nmX5, by decide, rfl, tyX5_ok 1 (by decide), xTbl_in (List.mem_of_getElem? (i := 335) (by decide +kernel)) rfl⟩⟩
theorem fp_X5_15 : xFP RX5 15 5 1 (.array .int) := ⟨RX5, TX5, tyX5, ⟨rfl, cw_X5, tyX5_ok, nmX5, by decide, rfl, tyX5_ok 1 (by decide), xTbl_in (List.mem_of_getElem? (i := 335) (by decide +kernel)) rfl⟩, rfl⟩
theorem ff_X5_18 : xFF RX5 18 5 2 .int false := ⟨RX5, TX5, tyX5, ⟨rfl, cw_X5, tyX5_ok, nmX5, by decide, rfl, tyX5_ok 2 (by decide), xTbl_in (List.mem_of_getElem? (i := 336) (by decide +kernel)) rfl⟩⟩
theorem ff_X10_219 : xFF RX10 219 5 2 .int false := ⟨RX5, TX5, tyX5, ⟨rfl, cw_X5, tyX5_ok, nmX5, by decide, rfl, tyX5_ok 2 (by decide), xTbl_in (List.mem_of_getElem? (i := 337) (by decide +kernel)) rfl⟩⟩
theorem ff_X5_27 : xFF RX5 27 5 3 .int false := ⟨RX5, TX5, tyX5, ⟨rfl, cw_X5, tyX5_ok, nmX5, by decide, rfl, tyX5_ok 3 (by decide), xTbl_in (List.mem_of_getElem? (i := 338) (by decide +kernel)) rfl⟩⟩
theorem ff_X10_222 : xFF RX10 222 5 3 .int false := ⟨RX5, TX5, tyX5, ⟨rfl, cw_X5, tyX5_ok, nmX5, by decide, rfl, tyX5_ok 3 (by decide), xTbl_in (List.mem_of_getElem? (i := 339) (by decide +kernel)) rfl⟩⟩
theorem ff_X0_9 : xFF RX0 9 0 0 (.array .int) true := ⟨RX0, TX0, tyX0, ⟨rfl, cw_X0, tyX0_ok, nmX0, by decide, rfl, tyX0_ok 0 (by decide), xTbl_in (List.mem_of_getElem? (i := 355) (by decide +kernel)) rfl⟩⟩
theorem fp_X0_9 : xFP RX0 9 0 0 (.array .int) := ⟨RX0, TX0, tyX0, ⟨rfl, cw_X0, tyX0_ok, nmX0, by decide, rfl, tyX0_ok 0 (by decide), xTbl_in (List.mem_of_getElem? (i := 355) (by decide +kernel)) rfl⟩, rfl⟩
theorem ff_X6_9 : xFF RX6 9 6 0 (.array .int) true := ⟨RX6, TX6, tyX6, ⟨rfl, cw_X6, tyX6_ok, nmX6, by decide, rfl, tyX6_ok 0 (by decide), xTbl_in (List.mem_of_getElem? (i := 366) (by decide +kernel)) rfl⟩⟩
theorem fp_X6_9 : xFP RX6 9 6 0 (.array .int) := ⟨RX6, TX6, tyX6, ⟨rfl, cw_X6, tyX6_ok, nmX6, by decide, rfl, tyX6_ok 0 (by decide), xTbl_in (List.mem_of_getElem? (i := 366) (by decide +kernel)) rfl⟩, rfl⟩
theorem ff_X6_15 : xFF RX6 15 6 1 .boolean false := ⟨RX6, TX6, tyX6, ⟨rfl, cw_X6, tyX6_ok, nmX6, by decide, rfl, tyX6_ok 1 (by decide), xTbl_in (List.mem_of_getElem? (i := 367) (by decide +kernel)) rfl⟩⟩
theorem ff_X10_347 : xFF RX10 347 6 1 .boolean false := ⟨RX6, TX6, tyX6, ⟨rfl, cw_X6, tyX6_ok, nmX6, by decide, rfl, tyX6_ok 1 (by decide), xTbl_in (List.mem_of_getElem? (i := 368) (by decide +kernel)) rfl⟩⟩
theorem ff_X6_19 : xFF RX6 19 6 2 .int false := ⟨RX6, TX6, tyX6, ⟨rfl, cw_X6, tyX6_ok, nmX6, by decide, rfl, tyX6_ok 2 (by decide), xTbl_in (List.mem_of_getElem? (i := 369) (by decide +kernel)) rfl⟩⟩
theorem ff_X6_23 : xFF RX6 23 6 3 .int false := ⟨RX6, TX6, tyX6, ⟨rfl, cw_X6, tyX6_ok, nmX6, by decide, rfl, tyX6_ok 3 (by decide), xTbl_in (List.mem_of_getElem? (i := 370) (by decide +kernel)) rfl⟩⟩
theorem ff_X10_320 : xFF RX10 320 6 3 .int false := ⟨RX6, TX6, tyX6, ⟨rfl, cw_X6, tyX6_ok, nmX6, by decide, rfl, tyX6_ok 3 (by decide), xTbl_in (List.mem_of_getElem? (i := 371) (by decide +kernel)) rfl⟩⟩
theorem ff_X10_10 : xFF RX10 10 10 0 (.object "JudgeFirst$Court") true := ⟨RX10, TX10, tyX10, ⟨rfl, cw_X10, tyX10_ok, nmX10, by decide, rfl, tyX10_ok 0 (by decide), xTbl_in (List.mem_of_getElem? (i := 381) (by decide +kernel)) rfl⟩⟩
theorem fp_X10_10 : xFP RX10 10 10 0 (.object "JudgeFirst$Court") := ⟨RX10, TX10, tyX10, ⟨rfl, cw_X10, tyX10_ok, nmX10, by decide, rfl, tyX10_ok 0 (by decide), xTbl_in (List.mem_of_getElem? (i := 381) (by decide +kernel)) rfl⟩, rfl⟩
theorem ff_X10_16 : xFF RX10 16 10 1 (.object "JudgeFirst$Court") true := ⟨RX10, TX10, tyX10, ⟨rfl, cw_X10, tyX10_ok, nmX10, by decide, rfl, tyX10_ok 1 (by decide), xTbl_in (List.mem_of_getElem? (i := 382) (by decide +kernel)) rfl⟩⟩
theorem fp_X10_16 : xFP RX10 16 10 1 (.object "JudgeFirst$Court") := ⟨RX10, TX10, tyX10, ⟨rfl, cw_X10, tyX10_ok, nmX10, by decide, rfl, tyX10_ok 1 (by decide), xTbl_in (List.mem_of_getElem? (i := 382) (by decide +kernel)) rfl⟩, rfl⟩
theorem ff_X10_21 : xFF RX10 21 10 2 (.array (.object "JudgeFirst$Image")) true := ⟨RX10, TX10, tyX10, ⟨rfl, cw_X10, tyX10_ok, nmX10, by decide, rfl, tyX10_ok 2 (by decide), xTbl_in (List.mem_of_getElem? (i := 383) (by decide +kernel)) rfl⟩⟩
theorem fp_X10_21 : xFP RX10 21 10 2 (.array (.object "JudgeFirst$Image")) := ⟨RX10, TX10, tyX10, ⟨rfl, cw_X10, tyX10_ok, nmX10, by decide, rfl, tyX10_ok 2 (by decide), xTbl_in (List.mem_of_getElem? (i := 383) (by decide +kernel)) rfl⟩, rfl⟩
theorem ff_X10_29 : xFF RX10 29 10 3 (.object "JudgeFirst$Tape") true := ⟨RX10, TX10, tyX10, ⟨rfl, cw_X10, tyX10_ok, nmX10, by decide, rfl, tyX10_ok 3 (by decide), xTbl_in (List.mem_of_getElem? (i := 384) (by decide +kernel)) rfl⟩⟩
theorem fp_X10_29 : xFP RX10 29 10 3 (.object "JudgeFirst$Tape") := ⟨RX10, TX10, tyX10, ⟨rfl, cw_X10, tyX10_ok, nmX10, by decide, rfl, tyX10_ok 3 (by decide), xTbl_in (List.mem_of_getElem? (i := 384) (by decide +kernel)) rfl⟩, rfl⟩
theorem ff_X10_36 : xFF RX10 36 10 4 (.object "JudgeFirst$Docket") true := ⟨RX10, TX10, tyX10, ⟨rfl, cw_X10, tyX10_ok, nmX10, by decide, rfl, tyX10_ok 4 (by decide), xTbl_in (List.mem_of_getElem? (i := 385) (by decide +kernel)) rfl⟩⟩
theorem fp_X10_36 : xFP RX10 36 10 4 (.object "JudgeFirst$Docket") := ⟨RX10, TX10, tyX10, ⟨rfl, cw_X10, tyX10_ok, nmX10, by decide, rfl, tyX10_ok 4 (by decide), xTbl_in (List.mem_of_getElem? (i := 385) (by decide +kernel)) rfl⟩, rfl⟩
theorem ff_X10_43 : xFF RX10 43 10 5 (.object "JudgeFirst$Roster") true := ⟨RX10, TX10, tyX10, ⟨rfl, cw_X10, tyX10_ok, nmX10, by decide, rfl, tyX10_ok 5 (by decide), xTbl_in (List.mem_of_getElem? (i := 386) (by decide +kernel)) rfl⟩⟩
theorem fp_X10_43 : xFP RX10 43 10 5 (.object "JudgeFirst$Roster") := ⟨RX10, TX10, tyX10, ⟨rfl, cw_X10, tyX10_ok, nmX10, by decide, rfl, tyX10_ok 5 (by decide), xTbl_in (List.mem_of_getElem? (i := 386) (by decide +kernel)) rfl⟩, rfl⟩
theorem ff_X10_50 : xFF RX10 50 10 6 (.object "JudgeFirst$Clues") true := ⟨RX10, TX10, tyX10, ⟨rfl, cw_X10, tyX10_ok, nmX10, by decide, rfl, tyX10_ok 6 (by decide), xTbl_in (List.mem_of_getElem? (i := 387) (by decide +kernel)) rfl⟩⟩
theorem fp_X10_50 : xFP RX10 50 10 6 (.object "JudgeFirst$Clues") := ⟨RX10, TX10, tyX10, ⟨rfl, cw_X10, tyX10_ok, nmX10, by decide, rfl, tyX10_ok 6 (by decide), xTbl_in (List.mem_of_getElem? (i := 387) (by decide +kernel)) rfl⟩, rfl⟩
theorem ff_X10_56 : xFF RX10 56 10 7 (.array (.object "JudgeFirst$Sheet")) true := ⟨RX10, TX10, tyX10, ⟨rfl, cw_X10, tyX10_ok, nmX10, by decide, rfl, tyX10_ok 7 (by decide), xTbl_in (List.mem_of_getElem? (i := 388) (by decide +kernel)) rfl⟩⟩
theorem fp_X10_56 : xFP RX10 56 10 7 (.array (.object "JudgeFirst$Sheet")) := ⟨RX10, TX10, tyX10, ⟨rfl, cw_X10, tyX10_ok, nmX10, by decide, rfl, tyX10_ok 7 (by decide), xTbl_in (List.mem_of_getElem? (i := 388) (by decide +kernel)) rfl⟩, rfl⟩
theorem ff_X10_61 : xFF RX10 61 10 8 .int false := ⟨RX10, TX10, tyX10, ⟨rfl, cw_X10, tyX10_ok, nmX10, by decide, rfl, tyX10_ok 8 (by decide), xTbl_in (List.mem_of_getElem? (i := 389) (by decide +kernel)) rfl⟩⟩
theorem ff_X11_7 : xFF RX11 7 11 0 (.array .int) true := ⟨RX11, TX11, tyX11, ⟨rfl, cw_X11, tyX11_ok, nmX11, by decide, rfl, tyX11_ok 0 (by decide), xTbl_in (List.mem_of_getElem? (i := 1018) (by decide +kernel)) rfl⟩⟩
theorem fp_X11_7 : xFP RX11 7 11 0 (.array .int) := ⟨RX11, TX11, tyX11, ⟨rfl, cw_X11, tyX11_ok, nmX11, by decide, rfl, tyX11_ok 0 (by decide), xTbl_in (List.mem_of_getElem? (i := 1018) (by decide +kernel)) rfl⟩, rfl⟩
theorem ff_X11_13 : xFF RX11 13 11 1 (.array .int) true := ⟨RX11, TX11, tyX11, ⟨rfl, cw_X11, tyX11_ok, nmX11, by decide, rfl, tyX11_ok 1 (by decide), xTbl_in (List.mem_of_getElem? (i := 1019) (by decide +kernel)) rfl⟩⟩
theorem fp_X11_13 : xFP RX11 13 11 1 (.array .int) := ⟨RX11, TX11, tyX11, ⟨rfl, cw_X11, tyX11_ok, nmX11, by decide, rfl, tyX11_ok 1 (by decide), xTbl_in (List.mem_of_getElem? (i := 1019) (by decide +kernel)) rfl⟩, rfl⟩
theorem ff_X11_16 : xFF RX11 16 11 2 (.array .boolean) true := ⟨RX11, TX11, tyX11, ⟨rfl, cw_X11, tyX11_ok, nmX11, by decide, rfl, tyX11_ok 2 (by decide), xTbl_in (List.mem_of_getElem? (i := 1020) (by decide +kernel)) rfl⟩⟩
theorem fp_X11_16 : xFP RX11 16 11 2 (.array .boolean) := ⟨RX11, TX11, tyX11, ⟨rfl, cw_X11, tyX11_ok, nmX11, by decide, rfl, tyX11_ok 2 (by decide), xTbl_in (List.mem_of_getElem? (i := 1020) (by decide +kernel)) rfl⟩, rfl⟩
theorem ff_X11_58 : xFF RX11 58 11 3 .int false := ⟨RX11, TX11, tyX11, ⟨rfl, cw_X11, tyX11_ok, nmX11, by decide, rfl, tyX11_ok 3 (by decide), xTbl_in (List.mem_of_getElem? (i := 1021) (by decide +kernel)) rfl⟩⟩
theorem ff_X11_61 : xFF RX11 61 11 4 .int false := ⟨RX11, TX11, tyX11, ⟨rfl, cw_X11, tyX11_ok, nmX11, by decide, rfl, tyX11_ok 4 (by decide), xTbl_in (List.mem_of_getElem? (i := 1022) (by decide +kernel)) rfl⟩⟩
theorem ff_X11_20 : xFF RX11 20 11 5 (.array .int) true := ⟨RX11, TX11, tyX11, ⟨rfl, cw_X11, tyX11_ok, nmX11, by decide, rfl, tyX11_ok 5 (by decide), xTbl_in (List.mem_of_getElem? (i := 1023) (by decide +kernel)) rfl⟩⟩
theorem fp_X11_20 : xFP RX11 20 11 5 (.array .int) := ⟨RX11, TX11, tyX11, ⟨rfl, cw_X11, tyX11_ok, nmX11, by decide, rfl, tyX11_ok 5 (by decide), xTbl_in (List.mem_of_getElem? (i := 1023) (by decide +kernel)) rfl⟩, rfl⟩
theorem ff_X11_47 : xFF RX11 47 11 6 .int false := ⟨RX11, TX11, tyX11, ⟨rfl, cw_X11, tyX11_ok, nmX11, by decide, rfl, tyX11_ok 6 (by decide), xTbl_in (List.mem_of_getElem? (i := 1024) (by decide +kernel)) rfl⟩⟩
theorem ff_X11_51 : xFF RX11 51 11 7 .int false := ⟨RX11, TX11, tyX11, ⟨rfl, cw_X11, tyX11_ok, nmX11, by decide, rfl, tyX11_ok 7 (by decide), xTbl_in (List.mem_of_getElem? (i := 1025) (by decide +kernel)) rfl⟩⟩
theorem ff_X11_54 : xFF RX11 54 11 8 .boolean false := ⟨RX11, TX11, tyX11, ⟨rfl, cw_X11, tyX11_ok, nmX11, by decide, rfl, tyX11_ok 8 (by decide), xTbl_in (List.mem_of_getElem? (i := 1026) (by decide +kernel)) rfl⟩⟩
theorem ff_X11_23 : xFF RX11 23 11 9 (.array .int) true := ⟨RX11, TX11, tyX11, ⟨rfl, cw_X11, tyX11_ok, nmX11, by decide, rfl, tyX11_ok 9 (by decide), xTbl_in (List.mem_of_getElem? (i := 1027) (by decide +kernel)) rfl⟩⟩
theorem fp_X11_23 : xFP RX11 23 11 9 (.array .int) := ⟨RX11, TX11, tyX11, ⟨rfl, cw_X11, tyX11_ok, nmX11, by decide, rfl, tyX11_ok 9 (by decide), xTbl_in (List.mem_of_getElem? (i := 1027) (by decide +kernel)) rfl⟩, rfl⟩
theorem ff_X11_70 : xFF RX11 70 11 10 .int false := ⟨RX11, TX11, tyX11, ⟨rfl, cw_X11, tyX11_ok, nmX11, by decide, rfl, tyX11_ok 10 (by decide), xTbl_in (List.mem_of_getElem? (i := 1028) (by decide +kernel)) rfl⟩⟩
theorem ff_X11_82 : xFF RX11 82 11 11 .int false := ⟨RX11, TX11, tyX11, ⟨rfl, cw_X11, tyX11_ok, nmX11, by decide, rfl, tyX11_ok 11 (by decide), xTbl_in (List.mem_of_getElem? (i := 1029) (by decide +kernel)) rfl⟩⟩
theorem ff_X11_76 : xFF RX11 76 11 12 .int false := ⟨RX11, TX11, tyX11, ⟨rfl, cw_X11, tyX11_ok, nmX11, by decide, rfl, tyX11_ok 12 (by decide), xTbl_in (List.mem_of_getElem? (i := 1030) (by decide +kernel)) rfl⟩⟩
theorem ff_X11_101 : xFF RX11 101 11 13 .int false := ⟨RX11, TX11, tyX11, ⟨rfl, cw_X11, tyX11_ok, nmX11, by decide, rfl, tyX11_ok 13 (by decide), xTbl_in (List.mem_of_getElem? (i := 1031) (by decide +kernel)) rfl⟩⟩
theorem ff_X11_112 : xFF RX11 112 11 14 .int false := ⟨RX11, TX11, tyX11, ⟨rfl, cw_X11, tyX11_ok, nmX11, by decide, rfl, tyX11_ok 14 (by decide), xTbl_in (List.mem_of_getElem? (i := 1032) (by decide +kernel)) rfl⟩⟩
theorem ff_X11_73 : xFF RX11 73 11 15 .int false := ⟨RX11, TX11, tyX11, ⟨rfl, cw_X11, tyX11_ok, nmX11, by decide, rfl, tyX11_ok 15 (by decide), xTbl_in (List.mem_of_getElem? (i := 1033) (by decide +kernel)) rfl⟩⟩
theorem ff_X11_79 : xFF RX11 79 11 16 .int false := ⟨RX11, TX11, tyX11, ⟨rfl, cw_X11, tyX11_ok, nmX11, by decide, rfl, tyX11_ok 16 (by decide), xTbl_in (List.mem_of_getElem? (i := 1034) (by decide +kernel)) rfl⟩⟩
theorem ff_X11_26 : xFF RX11 26 11 17 (.array .int) true := ⟨RX11, TX11, tyX11, ⟨rfl, cw_X11, tyX11_ok, nmX11, by decide, rfl, tyX11_ok 17 (by decide), xTbl_in (List.mem_of_getElem? (i := 1035) (by decide +kernel)) rfl⟩⟩
theorem fp_X11_26 : xFP RX11 26 11 17 (.array .int) := ⟨RX11, TX11, tyX11, ⟨rfl, cw_X11, tyX11_ok, nmX11, by decide, rfl, tyX11_ok 17 (by decide), xTbl_in (List.mem_of_getElem? (i := 1035) (by decide +kernel)) rfl⟩, rfl⟩
theorem ff_X11_168 : xFF RX11 168 11 18 .int false := ⟨RX11, TX11, tyX11, ⟨rfl, cw_X11, tyX11_ok, nmX11, by decide, rfl, tyX11_ok 18 (by decide), xTbl_in (List.mem_of_getElem? (i := 1036) (by decide +kernel)) rfl⟩⟩
theorem ff_X11_177 : xFF RX11 177 11 19 .int false := ⟨RX11, TX11, tyX11, ⟨rfl, cw_X11, tyX11_ok, nmX11, by decide, rfl, tyX11_ok 19 (by decide), xTbl_in (List.mem_of_getElem? (i := 1037) (by decide +kernel)) rfl⟩⟩
theorem ff_X11_259 : xFF RX11 259 11 20 .long false := ⟨RX11, TX11, tyX11, ⟨rfl, cw_X11, tyX11_ok, nmX11, by decide, rfl, tyX11_ok 20 (by decide), xTbl_in (List.mem_of_getElem? (i := 1038) (by decide +kernel)) rfl⟩⟩
theorem ff_X11_263 : xFF RX11 263 11 21 .long false := ⟨RX11, TX11, tyX11, ⟨rfl, cw_X11, tyX11_ok, nmX11, by decide, rfl, tyX11_ok 21 (by decide), xTbl_in (List.mem_of_getElem? (i := 1039) (by decide +kernel)) rfl⟩⟩
theorem ff_X11_266 : xFF RX11 266 11 22 .long false := ⟨RX11, TX11, tyX11, ⟨rfl, cw_X11, tyX11_ok, nmX11, by decide, rfl, tyX11_ok 22 (by decide), xTbl_in (List.mem_of_getElem? (i := 1040) (by decide +kernel)) rfl⟩⟩
theorem ff_X11_29 : xFF RX11 29 11 23 (.array .int) true := ⟨RX11, TX11, tyX11, ⟨rfl, cw_X11, tyX11_ok, nmX11, by decide, rfl, tyX11_ok 23 (by decide), xTbl_in (List.mem_of_getElem? (i := 1041) (by decide +kernel)) rfl⟩⟩
theorem fp_X11_29 : xFP RX11 29 11 23 (.array .int) := ⟨RX11, TX11, tyX11, ⟨rfl, cw_X11, tyX11_ok, nmX11, by decide, rfl, tyX11_ok 23 (by decide), xTbl_in (List.mem_of_getElem? (i := 1041) (by decide +kernel)) rfl⟩, rfl⟩
theorem ff_X11_32 : xFF RX11 32 11 24 (.array .int) true := ⟨RX11, TX11, tyX11, ⟨rfl, cw_X11, tyX11_ok, nmX11, by decide, rfl, tyX11_ok 24 (by decide), xTbl_in (List.mem_of_getElem? (i := 1042) (by decide +kernel)) rfl⟩⟩
theorem fp_X11_32 : xFP RX11 32 11 24 (.array .int) := ⟨RX11, TX11, tyX11, ⟨rfl, cw_X11, tyX11_ok, nmX11, by decide, rfl, tyX11_ok 24 (by decide), xTbl_in (List.mem_of_getElem? (i := 1042) (by decide +kernel)) rfl⟩, rfl⟩
theorem ff_X11_35 : xFF RX11 35 11 25 (.array .int) true := ⟨RX11, TX11, tyX11, ⟨rfl, cw_X11, tyX11_ok, nmX11, by decide, rfl, tyX11_ok 25 (by decide), xTbl_in (List.mem_of_getElem? (i := 1043) (by decide +kernel)) rfl⟩⟩
theorem fp_X11_35 : xFP RX11 35 11 25 (.array .int) := ⟨RX11, TX11, tyX11, ⟨rfl, cw_X11, tyX11_ok, nmX11, by decide, rfl, tyX11_ok 25 (by decide), xTbl_in (List.mem_of_getElem? (i := 1043) (by decide +kernel)) rfl⟩, rfl⟩
theorem ff_X11_311 : xFF RX11 311 11 26 .int false := ⟨RX11, TX11, tyX11, ⟨rfl, cw_X11, tyX11_ok, nmX11, by decide, rfl, tyX11_ok 26 (by decide), xTbl_in (List.mem_of_getElem? (i := 1044) (by decide +kernel)) rfl⟩⟩
theorem ff_X11_38 : xFF RX11 38 11 27 (.array .int) true := ⟨RX11, TX11, tyX11, ⟨rfl, cw_X11, tyX11_ok, nmX11, by decide, rfl, tyX11_ok 27 (by decide), xTbl_in (List.mem_of_getElem? (i := 1045) (by decide +kernel)) rfl⟩⟩
theorem fp_X11_38 : xFP RX11 38 11 27 (.array .int) := ⟨RX11, TX11, tyX11, ⟨rfl, cw_X11, tyX11_ok, nmX11, by decide, rfl, tyX11_ok 27 (by decide), xTbl_in (List.mem_of_getElem? (i := 1045) (by decide +kernel)) rfl⟩, rfl⟩
theorem cl_L_7 : Cond.classLink RL 7 RX10 ∈ xTbl := xTbl_in (List.mem_of_getElem? (i := 85) (by decide +kernel)) rfl
theorem nw_L_7 : xNw RL 7 10 := ⟨RX10, TX10, tyX10, rfl, cw_X10, tyX10_ok, by decide +kernel, cl_L_7, xTbl_in (List.mem_of_getElem? (i := 86) (by decide +kernel)) rfl, xTbl_in (List.mem_of_getElem? (i := 67) (by decide +kernel)) rfl⟩
theorem cl_X10_7 : Cond.classLink RX10 7 RX1 ∈ xTbl := xTbl_in (List.mem_of_getElem? (i := 93) (by decide +kernel)) rfl
theorem nw_X10_7 : xNw RX10 7 1 := ⟨RX1, TX1, tyX1, rfl, cw_X1, tyX1_ok, by decide +kernel, cl_X10_7, xTbl_in (List.mem_of_getElem? (i := 94) (by decide +kernel)) rfl, xTbl_in (List.mem_of_getElem? (i := 68) (by decide +kernel)) rfl⟩
theorem cl_X1_9 : Cond.classLink RX1 9 RX4 ∈ xTbl := xTbl_in (List.mem_of_getElem? (i := 99) (by decide +kernel)) rfl
theorem nw_X1_9 : xNw RX1 9 4 := ⟨RX4, TX4, tyX4, rfl, cw_X4, tyX4_ok, by decide +kernel, cl_X1_9, xTbl_in (List.mem_of_getElem? (i := 101) (by decide +kernel)) rfl, xTbl_in (List.mem_of_getElem? (i := 69) (by decide +kernel)) rfl⟩
theorem cl_X1_18 : Cond.classLink RX1 18 RX8 ∈ xTbl := xTbl_in (List.mem_of_getElem? (i := 132) (by decide +kernel)) rfl
theorem nw_X1_18 : xNw RX1 18 8 := ⟨RX8, TX8, tyX8, rfl, cw_X8, tyX8_ok, by decide +kernel, cl_X1_18, xTbl_in (List.mem_of_getElem? (i := 134) (by decide +kernel)) rfl, xTbl_in (List.mem_of_getElem? (i := 70) (by decide +kernel)) rfl⟩
theorem cl_X1_25 : Cond.classLink RX1 25 RX7 ∈ xTbl := xTbl_in (List.mem_of_getElem? (i := 176) (by decide +kernel)) rfl
theorem nw_X1_25 : xNw RX1 25 7 := ⟨RX7, TX7, tyX7, rfl, cw_X7, tyX7_ok, by decide +kernel, cl_X1_25, xTbl_in (List.mem_of_getElem? (i := 178) (by decide +kernel)) rfl, xTbl_in (List.mem_of_getElem? (i := 71) (by decide +kernel)) rfl⟩
theorem cl_X10_19 : Cond.classLink RX10 19 RX3 ∈ xTbl := xTbl_in (List.mem_of_getElem? (i := 242) (by decide +kernel)) rfl
theorem nw_X10_19 : xNw RX10 19 3 := ⟨RX3, TX3, tyX3, rfl, cw_X3, tyX3_ok, by decide +kernel, cl_X10_19, xTbl_in (List.mem_of_getElem? (i := 244) (by decide +kernel)) rfl, xTbl_in (List.mem_of_getElem? (i := 72) (by decide +kernel)) rfl⟩
theorem cl_X3_7 : Cond.classLink RX3 7 RX1 ∈ xTbl := xTbl_in (List.mem_of_getElem? (i := 249) (by decide +kernel)) rfl
theorem nw_X3_7 : xNw RX3 7 1 := ⟨RX1, TX1, tyX1, rfl, cw_X1, tyX1_ok, by decide +kernel, cl_X3_7, xTbl_in (List.mem_of_getElem? (i := 94) (by decide +kernel)) rfl, xTbl_in (List.mem_of_getElem? (i := 68) (by decide +kernel)) rfl⟩
theorem cl_X10_26 : Cond.classLink RX10 26 RX9 ∈ xTbl := xTbl_in (List.mem_of_getElem? (i := 260) (by decide +kernel)) rfl
theorem nw_X10_26 : xNw RX10 26 9 := ⟨RX9, TX9, tyX9, rfl, cw_X9, tyX9_ok, by decide +kernel, cl_X10_26, xTbl_in (List.mem_of_getElem? (i := 261) (by decide +kernel)) rfl, xTbl_in (List.mem_of_getElem? (i := 73) (by decide +kernel)) rfl⟩
theorem cl_X10_33 : Cond.classLink RX10 33 RX2 ∈ xTbl := xTbl_in (List.mem_of_getElem? (i := 298) (by decide +kernel)) rfl
theorem nw_X10_33 : xNw RX10 33 2 := ⟨RX2, TX2, tyX2, rfl, cw_X2, tyX2_ok, by decide +kernel, cl_X10_33, xTbl_in (List.mem_of_getElem? (i := 299) (by decide +kernel)) rfl, xTbl_in (List.mem_of_getElem? (i := 74) (by decide +kernel)) rfl⟩
theorem cl_X10_40 : Cond.classLink RX10 40 RX5 ∈ xTbl := xTbl_in (List.mem_of_getElem? (i := 328) (by decide +kernel)) rfl
theorem nw_X10_40 : xNw RX10 40 5 := ⟨RX5, TX5, tyX5, rfl, cw_X5, tyX5_ok, by decide +kernel, cl_X10_40, xTbl_in (List.mem_of_getElem? (i := 329) (by decide +kernel)) rfl, xTbl_in (List.mem_of_getElem? (i := 75) (by decide +kernel)) rfl⟩
theorem cl_X10_47 : Cond.classLink RX10 47 RX0 ∈ xTbl := xTbl_in (List.mem_of_getElem? (i := 349) (by decide +kernel)) rfl
theorem nw_X10_47 : xNw RX10 47 0 := ⟨RX0, TX0, tyX0, rfl, cw_X0, tyX0_ok, by decide +kernel, cl_X10_47, xTbl_in (List.mem_of_getElem? (i := 350) (by decide +kernel)) rfl, xTbl_in (List.mem_of_getElem? (i := 76) (by decide +kernel)) rfl⟩
theorem cl_X10_54 : Cond.classLink RX10 54 RX6 ∈ xTbl := xTbl_in (List.mem_of_getElem? (i := 359) (by decide +kernel)) rfl
theorem nw_X10_54 : xNw RX10 54 6 := ⟨RX6, TX6, tyX6, rfl, cw_X6, tyX6_ok, by decide +kernel, cl_X10_54, xTbl_in (List.mem_of_getElem? (i := 361) (by decide +kernel)) rfl, xTbl_in (List.mem_of_getElem? (i := 77) (by decide +kernel)) rfl⟩
theorem cl_L_10 : Cond.classLink RL 10 RX11 ∈ xTbl := xTbl_in (List.mem_of_getElem? (i := 1004) (by decide +kernel)) rfl
theorem nw_L_10 : xNw RL 10 11 := ⟨RX11, TX11, tyX11, rfl, cw_X11, tyX11_ok, by decide +kernel, cl_L_10, xTbl_in (List.mem_of_getElem? (i := 1005) (by decide +kernel)) rfl, xTbl_in (List.mem_of_getElem? (i := 78) (by decide +kernel)) rfl⟩
theorem ct_J6_265 : Cond.constant RJ6 265 (1431655765) ∈ xTbl := xTbl_in (List.mem_of_getElem? (i := 770) (by decide +kernel)) rfl
theorem ct_J6_266 : Cond.constant RJ6 266 (858993459) ∈ xTbl := xTbl_in (List.mem_of_getElem? (i := 771) (by decide +kernel)) rfl
theorem ct_J6_267 : Cond.constant RJ6 267 (252645135) ∈ xTbl := xTbl_in (List.mem_of_getElem? (i := 772) (by decide +kernel)) rfl
theorem ct_X10_287 : Cond.constant RX10 287 (1103515245) ∈ xTbl := xTbl_in (List.mem_of_getElem? (i := 940) (by decide +kernel)) rfl
theorem ct_X11_248 : Cond.constant RX11 248 (1000000) ∈ xTbl := xTbl_in (List.mem_of_getElem? (i := 1337) (by decide +kernel)) rfl
theorem ct_X11_298 : Cond.constant RX11 298 (1103515245) ∈ xTbl := xTbl_in (List.mem_of_getElem? (i := 1435) (by decide +kernel)) rfl
theorem cq_X10_250 : Cond.constantLong RX10 250 (-1) ∈ xTbl := xTbl_in (List.mem_of_getElem? (i := 860) (by decide +kernel)) rfl
theorem cq_X10_345 : Cond.constantLong RX10 345 (10) ∈ xTbl := xTbl_in (List.mem_of_getElem? (i := 871) (by decide +kernel)) rfl
theorem cq_X10_316 : Cond.constantLong RX10 316 (3) ∈ xTbl := xTbl_in (List.mem_of_getElem? (i := 978) (by decide +kernel)) rfl
theorem cq_X10_318 : Cond.constantLong RX10 318 (2) ∈ xTbl := xTbl_in (List.mem_of_getElem? (i := 979) (by decide +kernel)) rfl
theorem cq_X11_64 : Cond.constantLong RX11 64 (127) ∈ xTbl := xTbl_in (List.mem_of_getElem? (i := 1108) (by decide +kernel)) rfl
theorem cq_X11_104 : Cond.constantLong RX11 104 (97) ∈ xTbl := xTbl_in (List.mem_of_getElem? (i := 1128) (by decide +kernel)) rfl
theorem cq_X11_106 : Cond.constantLong RX11 106 (122) ∈ xTbl := xTbl_in (List.mem_of_getElem? (i := 1129) (by decide +kernel)) rfl
theorem cq_X11_108 : Cond.constantLong RX11 108 (48) ∈ xTbl := xTbl_in (List.mem_of_getElem? (i := 1130) (by decide +kernel)) rfl
theorem cq_X11_110 : Cond.constantLong RX11 110 (57) ∈ xTbl := xTbl_in (List.mem_of_getElem? (i := 1131) (by decide +kernel)) rfl
theorem cq_X11_202 : Cond.constantLong RX11 202 (5) ∈ xTbl := xTbl_in (List.mem_of_getElem? (i := 1207) (by decide +kernel)) rfl
theorem cq_X11_207 : Cond.constantLong RX11 207 (60) ∈ xTbl := xTbl_in (List.mem_of_getElem? (i := 1220) (by decide +kernel)) rfl
theorem cq_X11_209 : Cond.constantLong RX11 209 (3) ∈ xTbl := xTbl_in (List.mem_of_getElem? (i := 1228) (by decide +kernel)) rfl
theorem cq_X11_211 : Cond.constantLong RX11 211 (20) ∈ xTbl := xTbl_in (List.mem_of_getElem? (i := 1229) (by decide +kernel)) rfl
theorem cq_X11_213 : Cond.constantLong RX11 213 (99) ∈ xTbl := xTbl_in (List.mem_of_getElem? (i := 1230) (by decide +kernel)) rfl
theorem cq_X11_231 : Cond.constantLong RX11 231 (30) ∈ xTbl := xTbl_in (List.mem_of_getElem? (i := 1298) (by decide +kernel)) rfl
theorem cq_X11_269 : Cond.constantLong RX11 269 (10) ∈ xTbl := xTbl_in (List.mem_of_getElem? (i := 1374) (by decide +kernel)) rfl
theorem cq_X11_271 : Cond.constantLong RX11 271 (-1) ∈ xTbl := xTbl_in (List.mem_of_getElem? (i := 1375) (by decide +kernel)) rfl
theorem cq_X11_293 : Cond.constantLong RX11 293 (2) ∈ xTbl := xTbl_in (List.mem_of_getElem? (i := 1414) (by decide +kernel)) rfl
theorem cq_X11_305 : Cond.constantLong RX11 305 (13) ∈ xTbl := xTbl_in (List.mem_of_getElem? (i := 1463) (by decide +kernel)) rfl
theorem ac_int : Cond.arrayClass .int ∈ xTbl := xTbl_in (List.mem_of_getElem? (i := 327) (by decide +kernel)) rfl
theorem ac_byte : Cond.arrayClass .byte ∈ xTbl := xTbl_in (List.mem_of_getElem? (i := 297) (by decide +kernel)) rfl
theorem ac_boolean : Cond.arrayClass .boolean ∈ xTbl := xTbl_in (List.mem_of_getElem? (i := 1103) (by decide +kernel)) rfl
theorem fs_J0_38 : Cond.fieldLink RJ0 38 "java/lang/String" "COMPACT_STRINGS" "Z" ∈ xTbl := xTbl_in (List.mem_of_getElem? (i := 485) (by decide +kernel)) rfl
theorem fs_J0_1053 : Cond.fieldLink RJ0 1053 "jdk/internal/util/Preconditions" "SIOOBE_FORMATTER" "Ljava/util/function/BiFunction;" ∈ xTbl := xTbl_in (List.mem_of_getElem? (i := 501) (by decide +kernel)) rfl
theorem fs_J0_9 : Cond.fieldLink RJ0 9 "java/lang/String" "value" "[B" ∈ xTbl := xTbl_in (List.mem_of_getElem? (i := 1473) (by decide +kernel)) rfl
theorem fs_J0_15 : Cond.fieldLink RJ0 15 "java/lang/String" "coder" "B" ∈ xTbl := xTbl_in (List.mem_of_getElem? (i := 1474) (by decide +kernel)) rfl
