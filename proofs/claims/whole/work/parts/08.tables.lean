/-! THE TABLES: shapes of the two worlds, the methods, the words that they use, by program -/
def shC : List Sh := [.inr (9, [some 1, some 10, some 17, some 19, some 21, some 24, some 26, some 29, some 31, some 34, none]), .inr (5, [some 2, some 9, none, none, none, none, none, none]), .inr (6, [none, none, none, some 3, some 4, some 5, some 6, some 7, some 8]), .inl (0, 7), .inl (0, 7), .inl (0, 7), .inl (0, 7), .inl (0, 7), .inl (0, 6), .inl (0, 240), .inr (6, [none, none, none, some 11, some 12, some 13, some 14, some 15, some 16]), .inl (0, 7), .inl (0, 7), .inl (0, 7), .inl (0, 7), .inl (0, 7), .inl (0, 6), .inr (7, [some 18]), .inl (0, 32), .inr (3, [some 20, none, none]), .inl (0, 512), .inr (0, [some 22, some 23, none]), .inl (0, 64), .inl (0, 2), .inr (8, [some 25, none, none]), .inl (0, 6), .inr (2, [some 27, some 28, none]), .inl (0, 15), .inl (0, 15), .inr (1, [some 30]), .inl (0, 7), .inr (4, [some 32, some 33]), .inl (0, 512), .inl (0, 7), .inl (2, 40)]
def shM : List Sh := [.inr (10, [none, none, some 1, some 2, some 3, some 4, some 5, none, none, some 6, some 7, none, some 8, none, none, none, none, none, none, none, some 9, some 10, some 11, some 12, some 13, none, none, some 14, none, some 15, some 16, some 17, some 18, some 19, none, some 20, some 21, none, some 22, some 23, some 24, some 25]), .inl (0, 7), .inl (0, 7), .inl (0, 7), .inl (0, 7), .inl (0, 7), .inl (0, 6), .inl (0, 32), .inl (0, 240), .inl (0, 7), .inl (0, 7), .inl (0, 7), .inl (0, 7), .inl (0, 7), .inl (0, 6), .inl (0, 512), .inl (0, 32), .inl (1, 1600), .inl (0, 4), .inl (0, 512), .inl (0, 6), .inl (1, 6), .inl (0, 15), .inl (0, 15), .inl (0, 66), .inl (1, 2)]
def mX0_clear : Mt := (yX0_clear, cX0_clear, 1, none)
def mX0_has : Mt := (yX0_has, cX0_has, 2, (some .boolean))
def mX0_put : Mt := (yX0_put, cX0_put, 4, none)
def mX0_show : Mt := (yX0_show, cX0_show, 3, (some .int))
def mX1_fill : Mt := (yX1_fill, cX1_fill, 4, none)
def mX1_firstUp : Mt := (yX1_firstUp, cX1_firstUp, 9, (some .int))
def mX1_inOrder : Mt := (yX1_inOrder, cX1_inOrder, 7, (some .int))
def mX1_firstOfTheRest : Mt := (yX1_firstOfTheRest, cX1_firstOfTheRest, 7, (some .int))
def mX2_clear : Mt := (yX2_clear, cX2_clear, 1, none)
def mX2_add : Mt := (yX2_add, cX2_add, 3, (some .int))
def mX2_firstWrong : Mt := (yX2_firstWrong, cX2_firstWrong, 3, (some .int))
def mX3_remember : Mt := (yX3_remember, cX3_remember, 2, none)
def mX3_recall : Mt := (yX3_recall, cX3_recall, 2, none)
def mX3_forget : Mt := (yX3_forget, cX3_forget, 1, none)
def mX4_howMany : Mt := (yX4_howMany, cX4_howMany, 1, (some .int))
def mX4_fill : Mt := (yX4_fill, cX4_fill, 7, none)
def mX4_mayHold : Mt := (yX4_mayHold, cX4_mayHold, 5, (some .boolean))
def mX4_mostFrom : Mt := (yX4_mostFrom, cX4_mostFrom, 8, (some .int))
def mX4_firstHolder : Mt := (yX4_firstHolder, cX4_firstHolder, 7, (some .int))
def mX5_append : Mt := (yX5_append, cX5_append, 2, (some .int))
def mX5_parse : Mt := (yX5_parse, cX5_parse, 2, (some .int))
def mX5_readClause : Mt := (yX5_readClause, cX5_readClause, 2, none)
def mX5_readRust : Mt := (yX5_readRust, cX5_readRust, 2, none)
def mX5_readBox : Mt := (yX5_readBox, cX5_readBox, 5, none)
def mX5_readNesting : Mt := (yX5_readNesting, cX5_readNesting, 3, none)
def mX5_readRegent : Mt := (yX5_readRegent, cX5_readRegent, 2, none)
def mX5_opens : Mt := (yX5_opens, cX5_opens, 2, (some .boolean))
def mX5_closes : Mt := (yX5_closes, cX5_closes, 1, (some .boolean))
def mX5_readNumber : Mt := (yX5_readNumber, cX5_readNumber, 5, (some .int))
def mX5_skipBlanks : Mt := (yX5_skipBlanks, cX5_skipBlanks, 1, none)
def mX5_blame : Mt := (yX5_blame, cX5_blame, 3, none)
def mX6_clear : Mt := (yX6_clear, cX6_clear, 1, none)
def mX6_take : Mt := (yX6_take, cX6_take, 2, none)
def mX6_addBox : Mt := (yX6_addBox, cX6_addBox, 5, none)
def mX6_addRegent : Mt := (yX6_addRegent, cX6_addRegent, 2, none)
def mX6_exists : Mt := (yX6_exists, cX6_exists, 1, (some .boolean))
def mX6_hasBox : Mt := (yX6_hasBox, cX6_hasBox, 2, (some .boolean))
def mX6_hasRegent : Mt := (yX6_hasRegent, cX6_hasRegent, 2, (some .boolean))
def mX6_depthOf : Mt := (yX6_depthOf, cX6_depthOf, 4, (some .int))
def mX6_dynastyOf : Mt := (yX6_dynastyOf, cX6_dynastyOf, 4, (some .int))
def mX6_forceOf : Mt := (yX6_forceOf, cX6_forceOf, 5, (some .int))
def mX6_isAtCatch : Mt := (yX6_isAtCatch, cX6_isAtCatch, 3, (some .boolean))
def mX6_nextCatch : Mt := (yX6_nextCatch, cX6_nextCatch, 5, (some .int))
def mX6_catchesWithin : Mt := (yX6_catchesWithin, cX6_catchesWithin, 8, (some .long))
def mX7_clear : Mt := (yX7_clear, cX7_clear, 2, none)
def mX7_at : Mt := (yX7_at, cX7_at, 2, (some .int))
def mX7_isUp : Mt := (yX7_isUp, cX7_isUp, 2, (some .boolean))
def mX7_swaysOf : Mt := (yX7_swaysOf, cX7_swaysOf, 2, (some .int))
def mX7_rustOf : Mt := (yX7_rustOf, cX7_rustOf, 2, (some .int))
def mX7_isDamp : Mt := (yX7_isDamp, cX7_isDamp, 2, (some .boolean))
def mX7_seatOf : Mt := (yX7_seatOf, cX7_seatOf, 2, (some .int))
def mX7_bars : Mt := (yX7_bars, cX7_bars, 1, (some .int))
def mX7_nods : Mt := (yX7_nods, cX7_nods, 1, (some .int))
def mX7_thuds : Mt := (yX7_thuds, cX7_thuds, 1, (some .int))
def mX7_whoIsUp : Mt := (yX7_whoIsUp, cX7_whoIsUp, 1, (some .int))
def mX7_howManyUp : Mt := (yX7_howManyUp, cX7_howManyUp, 1, (some .int))
def mX7_whoIsDamp : Mt := (yX7_whoIsDamp, cX7_whoIsDamp, 1, (some .int))
def mX7_whoSways : Mt := (yX7_whoSways, cX7_whoSways, 3, (some .int))
def mX7_whoIsHeld : Mt := (yX7_whoIsHeld, cX7_whoIsHeld, 4, (some .int))
def mX7_forceOf : Mt := (yX7_forceOf, cX7_forceOf, 3, (some .int))
def mX7_rustBehind : Mt := (yX7_rustBehind, cX7_rustBehind, 6, (some .int))
def mX7_weightOn : Mt := (yX7_weightOn, cX7_weightOn, 5, (some .int))
def mX7_isHeldAgainst : Mt := (yX7_isHeldAgainst, cX7_isHeldAgainst, 5, (some .boolean))
def mX7_isOuterUp : Mt := (yX7_isOuterUp, cX7_isOuterUp, 4, (some .boolean))
def mX7_turnBox : Mt := (yX7_turnBox, cX7_turnBox, 5, (some .boolean))
def mX7_passBar : Mt := (yX7_passBar, cX7_passBar, 4, none)
def mX7_rustAll : Mt := (yX7_rustAll, cX7_rustAll, 3, none)
def mX7_pushDown : Mt := (yX7_pushDown, cX7_pushDown, 5, (some .int))
def mX7_seatAt : Mt := (yX7_seatAt, cX7_seatAt, 3, none)
def mX7_takeRustOff : Mt := (yX7_takeRustOff, cX7_takeRustOff, 2, none)
def mX7_makeDamp : Mt := (yX7_makeDamp, cX7_makeDamp, 3, none)
def mX7_turnDampness : Mt := (yX7_turnDampness, cX7_turnDampness, 2, none)
def mX8_clear : Mt := (yX8_clear, cX8_clear, 1, none)
def mX8_add : Mt := (yX8_add, cX8_add, 3, (some .int))
def mX8_isLiftedAt : Mt := (yX8_isLiftedAt, cX8_isLiftedAt, 4, (some .boolean))
def mX8_fits : Mt := (yX8_fits, cX8_fits, 5, (some .boolean))
def mX8_allThatFit : Mt := (yX8_allThatFit, cX8_allThatFit, 4, (some .int))
def mX8_bestToTry : Mt := (yX8_bestToTry, cX8_bestToTry, 9, (some .int))
def mX8_howManyLift : Mt := (yX8_howManyLift, cX8_howManyLift, 5, (some .int))
def mX9_feed : Mt := (yX9_feed, cX9_feed, 2, (some .int))
def mX9_duchy : Mt := (yX9_duchy, cX9_duchy, 2, (some .int))
def mX9_fault : Mt := (yX9_fault, cX9_fault, 1, (some .int))
def mX9_told : Mt := (yX9_told, cX9_told, 2, (some .int))
def mX9_box : Mt := (yX9_box, cX9_box, 3, (some .int))
def mX9_regent : Mt := (yX9_regent, cX9_regent, 3, (some .int))
def mX9_bar : Mt := (yX9_bar, cX9_bar, 4, (some .int))
def mX9_wind : Mt := (yX9_wind, cX9_wind, 4, (some .int))
def mX9_sit : Mt := (yX9_sit, cX9_sit, 4, (some .int))
def mX9_rise : Mt := (yX9_rise, cX9_rise, 3, (some .int))
def mX9_push : Mt := (yX9_push, cX9_push, 2, (some .int))
def mX9_oil : Mt := (yX9_oil, cX9_oil, 3, (some .int))
def mX9_damp : Mt := (yX9_damp, cX9_damp, 4, (some .int))
def mX9_drift : Mt := (yX9_drift, cX9_drift, 4, (some .int))
def mX9_undo : Mt := (yX9_undo, cX9_undo, 1, (some .int))
def mX9_comes : Mt := (yX9_comes, cX9_comes, 2, (some .int))
def mX9_order : Mt := (yX9_order, cX9_order, 2, (some .int))
def mX9_both : Mt := (yX9_both, cX9_both, 5, (some .int))
def mX9_ahead : Mt := (yX9_ahead, cX9_ahead, 5, (some .int))
def mX9_parted : Mt := (yX9_parted, cX9_parted, 5, (some .int))
def mX9_quiet : Mt := (yX9_quiet, cX9_quiet, 7, (some .int))
def mX9_hold : Mt := (yX9_hold, cX9_hold, 2, (some .int))
def mX9_lasts : Mt := (yX9_lasts, cX9_lasts, 6, (some .int))
def mX9_says : Mt := (yX9_says, cX9_says, 5, (some .int))
def mX9_dry : Mt := (yX9_dry, cX9_dry, 6, (some .int))
def mX9_see : Mt := (yX9_see, cX9_see, 3, (some .int))
def mX9_catches : Mt := (yX9_catches, cX9_catches, 2, (some .int))
def mX9_tryBar : Mt := (yX9_tryBar, cX9_tryBar, 2, (some .int))
def mX9_write : Mt := (yX9_write, cX9_write, 3, (some .int))
def mX9_tear : Mt := (yX9_tear, cX9_tear, 2, (some .int))
def mX9_judge : Mt := (yX9_judge, cX9_judge, 1, (some .int))
def mX9_seed : Mt := (yX9_seed, cX9_seed, 3, (some .int))
def mX9_keep : Mt := (yX9_keep, cX9_keep, 2, (some .int))
def mX9_goBack : Mt := (yX9_goBack, cX9_goBack, 2, (some .int))
def mX9_isImage : Mt := (yX9_isImage, cX9_isImage, 1, (some .boolean))
def mX9_isTuneToBeFound : Mt := (yX9_isTuneToBeFound, cX9_isTuneToBeFound, 1, (some .boolean))
def mX9_isPairOfBoxes : Mt := (yX9_isPairOfBoxes, cX9_isPairOfBoxes, 3, (some .boolean))
def mX9_refusalOfBars : Mt := (yX9_refusalOfBars, cX9_refusalOfBars, 3, (some .int))
def mX9_drawOf : Mt := (yX9_drawOf, cX9_drawOf, 2, (some .int))
def mX9_meddle : Mt := (yX9_meddle, cX9_meddle, 2, none)
def mX9_isAnyAtCatch : Mt := (yX9_isAnyAtCatch, cX9_isAnyAtCatch, 3, (some .boolean))
def mX9_endOfAll : Mt := (yX9_endOfAll, cX9_endOfAll, 7, (some .int))
def mX9_leastCommonMultiple : Mt := (yX9_leastCommonMultiple, cX9_leastCommonMultiple, 4, (some .int))
def mX9_markCatches : Mt := (yX9_markCatches, cX9_markCatches, 6, none)
def mX9_leastParting : Mt := (yX9_leastParting, cX9_leastParting, 12, (some .int))
def mX10_in : Mt := (yX10_in, cX10_in, 6, (some .boolean))
def mX10_has : Mt := (yX10_has, cX10_has, 2, (some .boolean))
def mX10_bits : Mt := (yX10_bits, cX10_bits, 3, (some .int))
def mX10_isBox : Mt := (yX10_isBox, cX10_isBox, 2, (some .boolean))
def mX10_isRegent : Mt := (yX10_isRegent, cX10_isRegent, 2, (some .boolean))
def mX10_areTwo : Mt := (yX10_areTwo, cX10_areTwo, 3, (some .boolean))
def mX10_feed : Mt := (yX10_feed, cX10_feed, 2, (some .int))
def mX10_here : Mt := (yX10_here, cX10_here, 1, (some .int))
def mX10_fails : Mt := (yX10_fails, cX10_fails, 3, (some .int))
def mX10_takeNumber : Mt := (yX10_takeNumber, cX10_takeNumber, 4, (some .int))
def mX10_into : Mt := (yX10_into, cX10_into, 6, (some .int))
def mX10_takeDuchy : Mt := (yX10_takeDuchy, cX10_takeDuchy, 2, (some .int))
def mX10_takeBox : Mt := (yX10_takeBox, cX10_takeBox, 3, (some .int))
def mX10_takeInside : Mt := (yX10_takeInside, cX10_takeInside, 3, (some .int))
def mX10_takeRegent : Mt := (yX10_takeRegent, cX10_takeRegent, 1, (some .int))
def mX10_isFull : Mt := (yX10_isFull, cX10_isFull, 2, (some .boolean))
def mX10_takeClause : Mt := (yX10_takeClause, cX10_takeClause, 4, (some .int))
def mX10_copyRow : Mt := (yX10_copyRow, cX10_copyRow, 4, none)
def mX10_takeRead : Mt := (yX10_takeRead, cX10_takeRead, 2, none)
def mX10_duchy : Mt := (yX10_duchy, cX10_duchy, 2, (some .int))
def mX10_fault : Mt := (yX10_fault, cX10_fault, 1, (some .int))
def mX10_depthOf : Mt := (yX10_depthOf, cX10_depthOf, 4, (some .int))
def mX10_dynastyOf : Mt := (yX10_dynastyOf, cX10_dynastyOf, 4, (some .int))
def mX10_lessBy : Mt := (yX10_lessBy, cX10_lessBy, 3, (some .int))
def mX10_forceBy : Mt := (yX10_forceBy, cX10_forceBy, 4, (some .int))
def mX10_forceOf : Mt := (yX10_forceOf, cX10_forceOf, 2, (some .int))
def mX10_weightsOn : Mt := (yX10_weightsOn, cX10_weightsOn, 4, (some .int))
def mX10_isHeld : Mt := (yX10_isHeld, cX10_isHeld, 3, (some .boolean))
def mX10_isUp : Mt := (yX10_isUp, cX10_isUp, 2, (some .boolean))
def mX10_canCome : Mt := (yX10_canCome, cX10_canCome, 2, (some .boolean))
def mX10_turn : Mt := (yX10_turn, cX10_turn, 2, (some .boolean))
def mX10_pass : Mt := (yX10_pass, cX10_pass, 4, none)
def mX10_swaying : Mt := (yX10_swaying, cX10_swaying, 3, (some .int))
def mX10_heldOnes : Mt := (yX10_heldOnes, cX10_heldOnes, 3, (some .int))
def mX10_end : Mt := (yX10_end, cX10_end, 4, (some .int))
def mX10_told : Mt := (yX10_told, cX10_told, 2, (some .int))
def mX10_box : Mt := (yX10_box, cX10_box, 3, (some .int))
def mX10_regent : Mt := (yX10_regent, cX10_regent, 3, (some .int))
def mX10_remember : Mt := (yX10_remember, cX10_remember, 2, none)
def mX10_bar : Mt := (yX10_bar, cX10_bar, 3, (some .int))
def mX10_wind : Mt := (yX10_wind, cX10_wind, 5, (some .int))
def mX10_sit : Mt := (yX10_sit, cX10_sit, 4, (some .int))
def mX10_rise : Mt := (yX10_rise, cX10_rise, 3, (some .int))
def mX10_pushNow : Mt := (yX10_pushNow, cX10_pushNow, 4, (some .int))
def mX10_push : Mt := (yX10_push, cX10_push, 2, (some .int))
def mX10_oil : Mt := (yX10_oil, cX10_oil, 3, (some .int))
def mX10_damp : Mt := (yX10_damp, cX10_damp, 4, (some .int))
def mX10_draw : Mt := (yX10_draw, cX10_draw, 2, (some .int))
def mX10_chance : Mt := (yX10_chance, cX10_chance, 5, none)
def mX10_drift : Mt := (yX10_drift, cX10_drift, 3, (some .int))
def mX10_undo : Mt := (yX10_undo, cX10_undo, 2, (some .int))
def mX10_comes : Mt := (yX10_comes, cX10_comes, 4, (some .int))
def mX10_order : Mt := (yX10_order, cX10_order, 6, (some .int))
def mX10_isCatch : Mt := (yX10_isCatch, cX10_isCatch, 4, (some .boolean))
def mX10_both : Mt := (yX10_both, cX10_both, 4, (some .int))
def mX10_nextOf : Mt := (yX10_nextOf, cX10_nextOf, 4, (some .int))
def mX10_ahead : Mt := (yX10_ahead, cX10_ahead, 5, (some .int))
def mX10_findMeets : Mt := (yX10_findMeets, cX10_findMeets, 7, none)
def mX10_figure : Mt := (yX10_figure, cX10_figure, 5, (some .int))
def mX10_isApart : Mt := (yX10_isApart, cX10_isApart, 6, (some .boolean))
def mX10_sumOf : Mt := (yX10_sumOf, cX10_sumOf, 3, (some .int))
def mX10_parted : Mt := (yX10_parted, cX10_parted, 11, (some .int))
def mX10_quiet : Mt := (yX10_quiet, cX10_quiet, 9, (some .int))
def mX10_couldHold : Mt := (yX10_couldHold, cX10_couldHold, 3, (some .boolean))
def mX10_findHeld : Mt := (yX10_findHeld, cX10_findHeld, 6, none)
def mX10_whoHolds : Mt := (yX10_whoHolds, cX10_whoHolds, 5, (some .int))
def mX10_hold : Mt := (yX10_hold, cX10_hold, 5, (some .int))
def mX10_lasts : Mt := (yX10_lasts, cX10_lasts, 4, (some .int))
def mX10_says : Mt := (yX10_says, cX10_says, 4, (some .int))
def mX10_dry : Mt := (yX10_dry, cX10_dry, 6, (some .int))
def mX10_see : Mt := (yX10_see, cX10_see, 3, (some .int))
def mX10_lifts : Mt := (yX10_lifts, cX10_lifts, 3, (some .boolean))
def mX10_catchesOf : Mt := (yX10_catchesOf, cX10_catchesOf, 6, (some .int))
def mX10_catches : Mt := (yX10_catches, cX10_catches, 2, (some .int))
def mX10_tryBar : Mt := (yX10_tryBar, cX10_tryBar, 9, (some .int))
def mX10_write : Mt := (yX10_write, cX10_write, 3, (some .int))
def mX10_tear : Mt := (yX10_tear, cX10_tear, 2, (some .int))
def mX10_judge : Mt := (yX10_judge, cX10_judge, 2, (some .int))
def mX10_seed : Mt := (yX10_seed, cX10_seed, 3, (some .int))
def mX10_keep : Mt := (yX10_keep, cX10_keep, 3, (some .int))
def mX10_goBack : Mt := (yX10_goBack, cX10_goBack, 3, (some .int))
def mJ6_bitCount_0f7a4 : Mt := (yJ6_bitCount_0f7a4, cJ6_bitCount_0f7a4, 1, (some .int))
theorem jX0 : ∀ w ∈ u_ws RX0 TX0 3, w ∈ TB := TB_ws iX0 (by decide +kernel)
theorem jX1 : ∀ w ∈ u_ws RX1 TX1 1, w ∈ TB := TB_ws iX1 (by decide +kernel)
theorem jX2 : ∀ w ∈ u_ws RX2 TX2 3, w ∈ TB := TB_ws iX2 (by decide +kernel)
theorem jX3 : ∀ w ∈ u_ws RX3 TX3 3, w ∈ TB := TB_ws iX3 (by decide +kernel)
theorem jX4 : ∀ w ∈ u_ws RX4 TX4 2, w ∈ TB := TB_ws iX4 (by decide +kernel)
theorem jX5 : ∀ w ∈ u_ws RX5 TX5 8, w ∈ TB := TB_ws iX5 (by decide +kernel)
theorem jX6 : ∀ w ∈ u_ws RX6 TX6 9, w ∈ TB := TB_ws iX6 (by decide +kernel)
theorem jX7 : ∀ w ∈ u_ws RX7 TX7 1, w ∈ TB := TB_ws iX7 (by decide +kernel)
theorem jX8 : ∀ w ∈ u_ws RX8 TX8 3, w ∈ TB := TB_ws iX8 (by decide +kernel)
theorem jX9 : ∀ w ∈ u_ws RX9 TX9 11, w ∈ TB := TB_ws iX9 (by decide +kernel)
theorem jX10 : ∀ w ∈ u_ws RX10 TX10 42, w ∈ TB := TB_ws iX10 (by decide +kernel)
theorem flC_0_0 : fld shC 0 9 0 = some (some 1) := rfl
theorem flC_0_1 : fld shC 0 9 1 = some (some 10) := rfl
theorem flC_0_2 : fld shC 0 9 2 = some (some 17) := rfl
theorem flC_0_3 : fld shC 0 9 3 = some (some 19) := rfl
theorem flC_0_4 : fld shC 0 9 4 = some (some 21) := rfl
theorem flC_0_5 : fld shC 0 9 5 = some (some 24) := rfl
theorem flC_0_6 : fld shC 0 9 6 = some (some 26) := rfl
theorem flC_0_7 : fld shC 0 9 7 = some (some 29) := rfl
theorem flC_0_8 : fld shC 0 9 8 = some (some 31) := rfl
theorem flC_0_9 : fld shC 0 9 9 = some (some 34) := rfl
theorem flC_0_10 : fld shC 0 9 10 = some (none) := rfl
theorem flC_1_0 : fld shC 1 5 0 = some (some 2) := rfl
theorem flC_1_1 : fld shC 1 5 1 = some (some 9) := rfl
theorem flC_1_2 : fld shC 1 5 2 = some (none) := rfl
theorem flC_1_3 : fld shC 1 5 3 = some (none) := rfl
theorem flC_1_4 : fld shC 1 5 4 = some (none) := rfl
theorem flC_1_5 : fld shC 1 5 5 = some (none) := rfl
theorem flC_1_6 : fld shC 1 5 6 = some (none) := rfl
theorem flC_1_7 : fld shC 1 5 7 = some (none) := rfl
theorem flC_2_0 : fld shC 2 6 0 = some (none) := rfl
theorem flC_2_1 : fld shC 2 6 1 = some (none) := rfl
theorem flC_2_2 : fld shC 2 6 2 = some (none) := rfl
theorem flC_2_3 : fld shC 2 6 3 = some (some 3) := rfl
theorem flC_2_4 : fld shC 2 6 4 = some (some 4) := rfl
theorem flC_2_5 : fld shC 2 6 5 = some (some 5) := rfl
theorem flC_2_6 : fld shC 2 6 6 = some (some 6) := rfl
theorem flC_2_7 : fld shC 2 6 7 = some (some 7) := rfl
theorem flC_2_8 : fld shC 2 6 8 = some (some 8) := rfl
theorem arC_3 : arr shC 0 3 = some 7 := rfl
theorem arC_4 : arr shC 0 4 = some 7 := rfl
theorem arC_5 : arr shC 0 5 = some 7 := rfl
theorem arC_6 : arr shC 0 6 = some 7 := rfl
theorem arC_7 : arr shC 0 7 = some 7 := rfl
theorem arC_8 : arr shC 0 8 = some 6 := rfl
theorem arC_9 : arr shC 0 9 = some 240 := rfl
theorem flC_10_0 : fld shC 10 6 0 = some (none) := rfl
theorem flC_10_1 : fld shC 10 6 1 = some (none) := rfl
theorem flC_10_2 : fld shC 10 6 2 = some (none) := rfl
theorem flC_10_3 : fld shC 10 6 3 = some (some 11) := rfl
theorem flC_10_4 : fld shC 10 6 4 = some (some 12) := rfl
theorem flC_10_5 : fld shC 10 6 5 = some (some 13) := rfl
theorem flC_10_6 : fld shC 10 6 6 = some (some 14) := rfl
theorem flC_10_7 : fld shC 10 6 7 = some (some 15) := rfl
theorem flC_10_8 : fld shC 10 6 8 = some (some 16) := rfl
theorem arC_11 : arr shC 0 11 = some 7 := rfl
theorem arC_12 : arr shC 0 12 = some 7 := rfl
theorem arC_13 : arr shC 0 13 = some 7 := rfl
theorem arC_14 : arr shC 0 14 = some 7 := rfl
theorem arC_15 : arr shC 0 15 = some 7 := rfl
theorem arC_16 : arr shC 0 16 = some 6 := rfl
theorem flC_17_0 : fld shC 17 7 0 = some (some 18) := rfl
theorem arC_18 : arr shC 0 18 = some 32 := rfl
theorem flC_19_0 : fld shC 19 3 0 = some (some 20) := rfl
theorem flC_19_1 : fld shC 19 3 1 = some (none) := rfl
theorem flC_19_2 : fld shC 19 3 2 = some (none) := rfl
theorem arC_20 : arr shC 0 20 = some 512 := rfl
theorem flC_21_0 : fld shC 21 0 0 = some (some 22) := rfl
theorem flC_21_1 : fld shC 21 0 1 = some (some 23) := rfl
theorem flC_21_2 : fld shC 21 0 2 = some (none) := rfl
theorem arC_22 : arr shC 0 22 = some 64 := rfl
theorem arC_23 : arr shC 0 23 = some 2 := rfl
theorem flC_24_0 : fld shC 24 8 0 = some (some 25) := rfl
theorem flC_24_1 : fld shC 24 8 1 = some (none) := rfl
theorem flC_24_2 : fld shC 24 8 2 = some (none) := rfl
theorem arC_25 : arr shC 0 25 = some 6 := rfl
theorem flC_26_0 : fld shC 26 2 0 = some (some 27) := rfl
theorem flC_26_1 : fld shC 26 2 1 = some (some 28) := rfl
theorem flC_26_2 : fld shC 26 2 2 = some (none) := rfl
theorem arC_27 : arr shC 0 27 = some 15 := rfl
theorem arC_28 : arr shC 0 28 = some 15 := rfl
theorem flC_29_0 : fld shC 29 1 0 = some (some 30) := rfl
theorem arC_30 : arr shC 0 30 = some 7 := rfl
theorem flC_31_0 : fld shC 31 4 0 = some (some 32) := rfl
theorem flC_31_1 : fld shC 31 4 1 = some (some 33) := rfl
theorem arC_32 : arr shC 0 32 = some 512 := rfl
theorem arC_33 : arr shC 0 33 = some 7 := rfl
theorem arC_34 : arr shC 2 34 = some 40 := rfl
theorem flM_0_0 : fld shM 0 10 0 = some (none) := rfl
theorem flM_0_1 : fld shM 0 10 1 = some (none) := rfl
theorem flM_0_2 : fld shM 0 10 2 = some (some 1) := rfl
theorem flM_0_3 : fld shM 0 10 3 = some (some 2) := rfl
theorem flM_0_4 : fld shM 0 10 4 = some (some 3) := rfl
theorem flM_0_5 : fld shM 0 10 5 = some (some 4) := rfl
theorem flM_0_6 : fld shM 0 10 6 = some (some 5) := rfl
theorem flM_0_7 : fld shM 0 10 7 = some (none) := rfl
theorem flM_0_8 : fld shM 0 10 8 = some (none) := rfl
theorem flM_0_9 : fld shM 0 10 9 = some (some 6) := rfl
theorem flM_0_10 : fld shM 0 10 10 = some (some 7) := rfl
theorem flM_0_11 : fld shM 0 10 11 = some (none) := rfl
theorem flM_0_12 : fld shM 0 10 12 = some (some 8) := rfl
theorem flM_0_13 : fld shM 0 10 13 = some (none) := rfl
theorem flM_0_14 : fld shM 0 10 14 = some (none) := rfl
theorem flM_0_15 : fld shM 0 10 15 = some (none) := rfl
theorem flM_0_16 : fld shM 0 10 16 = some (none) := rfl
theorem flM_0_17 : fld shM 0 10 17 = some (none) := rfl
theorem flM_0_18 : fld shM 0 10 18 = some (none) := rfl
theorem flM_0_19 : fld shM 0 10 19 = some (none) := rfl
theorem flM_0_20 : fld shM 0 10 20 = some (some 9) := rfl
theorem flM_0_21 : fld shM 0 10 21 = some (some 10) := rfl
theorem flM_0_22 : fld shM 0 10 22 = some (some 11) := rfl
theorem flM_0_23 : fld shM 0 10 23 = some (some 12) := rfl
theorem flM_0_24 : fld shM 0 10 24 = some (some 13) := rfl
theorem flM_0_25 : fld shM 0 10 25 = some (none) := rfl
theorem flM_0_26 : fld shM 0 10 26 = some (none) := rfl
theorem flM_0_27 : fld shM 0 10 27 = some (some 14) := rfl
theorem flM_0_28 : fld shM 0 10 28 = some (none) := rfl
theorem flM_0_29 : fld shM 0 10 29 = some (some 15) := rfl
theorem flM_0_30 : fld shM 0 10 30 = some (some 16) := rfl
theorem flM_0_31 : fld shM 0 10 31 = some (some 17) := rfl
theorem flM_0_32 : fld shM 0 10 32 = some (some 18) := rfl
theorem flM_0_33 : fld shM 0 10 33 = some (some 19) := rfl
theorem flM_0_34 : fld shM 0 10 34 = some (none) := rfl
theorem flM_0_35 : fld shM 0 10 35 = some (some 20) := rfl
theorem flM_0_36 : fld shM 0 10 36 = some (some 21) := rfl
theorem flM_0_37 : fld shM 0 10 37 = some (none) := rfl
theorem flM_0_38 : fld shM 0 10 38 = some (some 22) := rfl
theorem flM_0_39 : fld shM 0 10 39 = some (some 23) := rfl
theorem flM_0_40 : fld shM 0 10 40 = some (some 24) := rfl
theorem flM_0_41 : fld shM 0 10 41 = some (some 25) := rfl
theorem arM_1 : arr shM 0 1 = some 7 := rfl
theorem arM_2 : arr shM 0 2 = some 7 := rfl
theorem arM_3 : arr shM 0 3 = some 7 := rfl
theorem arM_4 : arr shM 0 4 = some 7 := rfl
theorem arM_5 : arr shM 0 5 = some 7 := rfl
theorem arM_6 : arr shM 0 6 = some 6 := rfl
theorem arM_7 : arr shM 0 7 = some 32 := rfl
theorem arM_8 : arr shM 0 8 = some 240 := rfl
theorem arM_9 : arr shM 0 9 = some 7 := rfl
theorem arM_10 : arr shM 0 10 = some 7 := rfl
theorem arM_11 : arr shM 0 11 = some 7 := rfl
theorem arM_12 : arr shM 0 12 = some 7 := rfl
theorem arM_13 : arr shM 0 13 = some 7 := rfl
theorem arM_14 : arr shM 0 14 = some 6 := rfl
theorem arM_15 : arr shM 0 15 = some 512 := rfl
theorem arM_16 : arr shM 0 16 = some 32 := rfl
theorem arM_17 : arr shM 1 17 = some 1600 := rfl
theorem arM_18 : arr shM 0 18 = some 4 := rfl
theorem arM_19 : arr shM 0 19 = some 512 := rfl
theorem arM_20 : arr shM 0 20 = some 6 := rfl
theorem arM_21 : arr shM 1 21 = some 6 := rfl
theorem arM_22 : arr shM 0 22 = some 15 := rfl
theorem arM_23 : arr shM 0 23 = some 15 := rfl
theorem arM_24 : arr shM 0 24 = some 66 := rfl
theorem arM_25 : arr shM 1 25 = some 2 := rfl
theorem wk_0 : Cond.selects "BoxedHeirs" ⟨"BoxedHeirs", "refusalOfBars", "(II)I"⟩ ⟨"BoxedHeirs", "refusalOfBars", "(II)I"⟩ ∈ TB := TB_in (List.mem_of_getElem? (i := 0) (by decide +kernel)) rfl
theorem wk_1 : Cond.selects "BoxedHeirs" ⟨"BoxedHeirs", "meddle", "()V"⟩ ⟨"BoxedHeirs", "meddle", "()V"⟩ ∈ TB := TB_in (List.mem_of_getElem? (i := 1) (by decide +kernel)) rfl
theorem wk_2 : Cond.selects "BoxedHeirs" ⟨"BoxedHeirs", "drawOf", "(I)I"⟩ ⟨"BoxedHeirs", "drawOf", "(I)I"⟩ ∈ TB := TB_in (List.mem_of_getElem? (i := 2) (by decide +kernel)) rfl
theorem wk_3 : Cond.selects "BoxedHeirs" ⟨"BoxedHeirs", "isPairOfBoxes", "(II)Z"⟩ ⟨"BoxedHeirs", "isPairOfBoxes", "(II)Z"⟩ ∈ TB := TB_in (List.mem_of_getElem? (i := 3) (by decide +kernel)) rfl
theorem wk_4 : Cond.selects "BoxedHeirs" ⟨"BoxedHeirs", "markCatches", "(II)V"⟩ ⟨"BoxedHeirs", "markCatches", "(II)V"⟩ ∈ TB := TB_in (List.mem_of_getElem? (i := 4) (by decide +kernel)) rfl
theorem wk_5 : Cond.selects "BoxedHeirs" ⟨"BoxedHeirs", "isAnyAtCatch", "(I)Z"⟩ ⟨"BoxedHeirs", "isAnyAtCatch", "(I)Z"⟩ ∈ TB := TB_in (List.mem_of_getElem? (i := 5) (by decide +kernel)) rfl
theorem wk_6 : Cond.selects "BoxedHeirsModel" ⟨"BoxedHeirsModel", "here", "()I"⟩ ⟨"BoxedHeirsModel", "here", "()I"⟩ ∈ TB := TB_in (List.mem_of_getElem? (i := 6) (by decide +kernel)) rfl
theorem wk_7 : Cond.selects "BoxedHeirsModel" ⟨"BoxedHeirsModel", "takeClause", "()I"⟩ ⟨"BoxedHeirsModel", "takeClause", "()I"⟩ ∈ TB := TB_in (List.mem_of_getElem? (i := 7) (by decide +kernel)) rfl
theorem wk_8 : Cond.selects "BoxedHeirsModel" ⟨"BoxedHeirsModel", "fails", "(II)I"⟩ ⟨"BoxedHeirsModel", "fails", "(II)I"⟩ ∈ TB := TB_in (List.mem_of_getElem? (i := 8) (by decide +kernel)) rfl
theorem wk_9 : Cond.selects "BoxedHeirsModel" ⟨"BoxedHeirsModel", "isFull", "(I)Z"⟩ ⟨"BoxedHeirsModel", "isFull", "(I)Z"⟩ ∈ TB := TB_in (List.mem_of_getElem? (i := 9) (by decide +kernel)) rfl
theorem wk_10 : Cond.selects "BoxedHeirsModel" ⟨"BoxedHeirsModel", "takeDuchy", "()I"⟩ ⟨"BoxedHeirsModel", "takeDuchy", "()I"⟩ ∈ TB := TB_in (List.mem_of_getElem? (i := 10) (by decide +kernel)) rfl
theorem wk_11 : Cond.selects "BoxedHeirsModel" ⟨"BoxedHeirsModel", "takeNumber", "(II)I"⟩ ⟨"BoxedHeirsModel", "takeNumber", "(II)I"⟩ ∈ TB := TB_in (List.mem_of_getElem? (i := 11) (by decide +kernel)) rfl
theorem wk_12 : Cond.selects "BoxedHeirsModel" ⟨"BoxedHeirsModel", "takeBox", "()I"⟩ ⟨"BoxedHeirsModel", "takeBox", "()I"⟩ ∈ TB := TB_in (List.mem_of_getElem? (i := 12) (by decide +kernel)) rfl
theorem wk_13 : Cond.selects "BoxedHeirsModel" ⟨"BoxedHeirsModel", "into", "([IIII)I"⟩ ⟨"BoxedHeirsModel", "into", "([IIII)I"⟩ ∈ TB := TB_in (List.mem_of_getElem? (i := 13) (by decide +kernel)) rfl
theorem wk_14 : Cond.selects "BoxedHeirsModel" ⟨"BoxedHeirsModel", "takeInside", "()I"⟩ ⟨"BoxedHeirsModel", "takeInside", "()I"⟩ ∈ TB := TB_in (List.mem_of_getElem? (i := 14) (by decide +kernel)) rfl
theorem wk_15 : Cond.selects "BoxedHeirsModel" ⟨"BoxedHeirsModel", "takeRegent", "()I"⟩ ⟨"BoxedHeirsModel", "takeRegent", "()I"⟩ ∈ TB := TB_in (List.mem_of_getElem? (i := 15) (by decide +kernel)) rfl
theorem wk_16 : Cond.selects "BoxedHeirsModel" ⟨"BoxedHeirsModel", "takeRead", "()V"⟩ ⟨"BoxedHeirsModel", "takeRead", "()V"⟩ ∈ TB := TB_in (List.mem_of_getElem? (i := 16) (by decide +kernel)) rfl
theorem wk_17 : Cond.selects "BoxedHeirsModel" ⟨"BoxedHeirsModel", "swaying", "()I"⟩ ⟨"BoxedHeirsModel", "swaying", "()I"⟩ ∈ TB := TB_in (List.mem_of_getElem? (i := 17) (by decide +kernel)) rfl
theorem wk_18 : Cond.selects "BoxedHeirsModel" ⟨"BoxedHeirsModel", "heldOnes", "()I"⟩ ⟨"BoxedHeirsModel", "heldOnes", "()I"⟩ ∈ TB := TB_in (List.mem_of_getElem? (i := 18) (by decide +kernel)) rfl
theorem wk_19 : Cond.selects "BoxedHeirsModel" ⟨"BoxedHeirsModel", "isHeld", "(I)Z"⟩ ⟨"BoxedHeirsModel", "isHeld", "(I)Z"⟩ ∈ TB := TB_in (List.mem_of_getElem? (i := 19) (by decide +kernel)) rfl
theorem wk_20 : Cond.selects "BoxedHeirsModel" ⟨"BoxedHeirsModel", "weightsOn", "(I)I"⟩ ⟨"BoxedHeirsModel", "weightsOn", "(I)I"⟩ ∈ TB := TB_in (List.mem_of_getElem? (i := 20) (by decide +kernel)) rfl
theorem wk_21 : Cond.selects "BoxedHeirsModel" ⟨"BoxedHeirsModel", "forceOf", "(I)I"⟩ ⟨"BoxedHeirsModel", "forceOf", "(I)I"⟩ ∈ TB := TB_in (List.mem_of_getElem? (i := 21) (by decide +kernel)) rfl
theorem wk_22 : Cond.selects "BoxedHeirsModel" ⟨"BoxedHeirsModel", "forceBy", "(II)I"⟩ ⟨"BoxedHeirsModel", "forceBy", "(II)I"⟩ ∈ TB := TB_in (List.mem_of_getElem? (i := 22) (by decide +kernel)) rfl
theorem wk_23 : Cond.selects "BoxedHeirsModel" ⟨"BoxedHeirsModel", "lessBy", "(II)I"⟩ ⟨"BoxedHeirsModel", "lessBy", "(II)I"⟩ ∈ TB := TB_in (List.mem_of_getElem? (i := 23) (by decide +kernel)) rfl
theorem wk_24 : Cond.selects "BoxedHeirsModel" ⟨"BoxedHeirsModel", "depthOf", "(I)I"⟩ ⟨"BoxedHeirsModel", "depthOf", "(I)I"⟩ ∈ TB := TB_in (List.mem_of_getElem? (i := 24) (by decide +kernel)) rfl
theorem wk_25 : Cond.selects "BoxedHeirsModel" ⟨"BoxedHeirsModel", "end", "()I"⟩ ⟨"BoxedHeirsModel", "end", "()I"⟩ ∈ TB := TB_in (List.mem_of_getElem? (i := 25) (by decide +kernel)) rfl
theorem wk_26 : Cond.selects "BoxedHeirsModel" ⟨"BoxedHeirsModel", "isBox", "(I)Z"⟩ ⟨"BoxedHeirsModel", "isBox", "(I)Z"⟩ ∈ TB := TB_in (List.mem_of_getElem? (i := 26) (by decide +kernel)) rfl
theorem wk_27 : Cond.selects "BoxedHeirsModel" ⟨"BoxedHeirsModel", "isUp", "(I)Z"⟩ ⟨"BoxedHeirsModel", "isUp", "(I)Z"⟩ ∈ TB := TB_in (List.mem_of_getElem? (i := 27) (by decide +kernel)) rfl
theorem wk_28 : Cond.selects "BoxedHeirsModel" ⟨"BoxedHeirsModel", "dynastyOf", "(I)I"⟩ ⟨"BoxedHeirsModel", "dynastyOf", "(I)I"⟩ ∈ TB := TB_in (List.mem_of_getElem? (i := 28) (by decide +kernel)) rfl
theorem wk_29 : Cond.selects "BoxedHeirsModel" ⟨"BoxedHeirsModel", "isRegent", "(I)Z"⟩ ⟨"BoxedHeirsModel", "isRegent", "(I)Z"⟩ ∈ TB := TB_in (List.mem_of_getElem? (i := 29) (by decide +kernel)) rfl
theorem wk_30 : Cond.selects "BoxedHeirsModel" ⟨"BoxedHeirsModel", "remember", "()V"⟩ ⟨"BoxedHeirsModel", "remember", "()V"⟩ ∈ TB := TB_in (List.mem_of_getElem? (i := 30) (by decide +kernel)) rfl
theorem wk_31 : Cond.selects "BoxedHeirsModel" ⟨"BoxedHeirsModel", "pass", "()V"⟩ ⟨"BoxedHeirsModel", "pass", "()V"⟩ ∈ TB := TB_in (List.mem_of_getElem? (i := 31) (by decide +kernel)) rfl
theorem wk_32 : Cond.selects "BoxedHeirsModel" ⟨"BoxedHeirsModel", "turn", "(I)Z"⟩ ⟨"BoxedHeirsModel", "turn", "(I)Z"⟩ ∈ TB := TB_in (List.mem_of_getElem? (i := 32) (by decide +kernel)) rfl
theorem wk_33 : Cond.selects "BoxedHeirsModel" ⟨"BoxedHeirsModel", "canCome", "(I)Z"⟩ ⟨"BoxedHeirsModel", "canCome", "(I)Z"⟩ ∈ TB := TB_in (List.mem_of_getElem? (i := 33) (by decide +kernel)) rfl
theorem wk_34 : Cond.selects "BoxedHeirsModel" ⟨"BoxedHeirsModel", "pushNow", "(I)I"⟩ ⟨"BoxedHeirsModel", "pushNow", "(I)I"⟩ ∈ TB := TB_in (List.mem_of_getElem? (i := 34) (by decide +kernel)) rfl
theorem wk_35 : Cond.selects "BoxedHeirsModel" ⟨"BoxedHeirsModel", "chance", "()V"⟩ ⟨"BoxedHeirsModel", "chance", "()V"⟩ ∈ TB := TB_in (List.mem_of_getElem? (i := 35) (by decide +kernel)) rfl
theorem wk_36 : Cond.selects "BoxedHeirsModel" ⟨"BoxedHeirsModel", "draw", "(I)I"⟩ ⟨"BoxedHeirsModel", "draw", "(I)I"⟩ ∈ TB := TB_in (List.mem_of_getElem? (i := 36) (by decide +kernel)) rfl
theorem wk_37 : Cond.selects "BoxedHeirsModel" ⟨"BoxedHeirsModel", "areTwo", "(II)Z"⟩ ⟨"BoxedHeirsModel", "areTwo", "(II)Z"⟩ ∈ TB := TB_in (List.mem_of_getElem? (i := 37) (by decide +kernel)) rfl
theorem wk_38 : Cond.selects "BoxedHeirsModel" ⟨"BoxedHeirsModel", "isCatch", "(III)Z"⟩ ⟨"BoxedHeirsModel", "isCatch", "(III)Z"⟩ ∈ TB := TB_in (List.mem_of_getElem? (i := 38) (by decide +kernel)) rfl
theorem wk_39 : Cond.selects "BoxedHeirsModel" ⟨"BoxedHeirsModel", "nextOf", "(II)I"⟩ ⟨"BoxedHeirsModel", "nextOf", "(II)I"⟩ ∈ TB := TB_in (List.mem_of_getElem? (i := 39) (by decide +kernel)) rfl
theorem wk_40 : Cond.selects "BoxedHeirsModel" ⟨"BoxedHeirsModel", "findMeets", "(I)V"⟩ ⟨"BoxedHeirsModel", "findMeets", "(I)V"⟩ ∈ TB := TB_in (List.mem_of_getElem? (i := 40) (by decide +kernel)) rfl
theorem wk_41 : Cond.selects "BoxedHeirsModel" ⟨"BoxedHeirsModel", "isApart", "(II)Z"⟩ ⟨"BoxedHeirsModel", "isApart", "(II)Z"⟩ ∈ TB := TB_in (List.mem_of_getElem? (i := 41) (by decide +kernel)) rfl
theorem wk_42 : Cond.selects "BoxedHeirsModel" ⟨"BoxedHeirsModel", "findHeld", "()V"⟩ ⟨"BoxedHeirsModel", "findHeld", "()V"⟩ ∈ TB := TB_in (List.mem_of_getElem? (i := 42) (by decide +kernel)) rfl
theorem wk_43 : Cond.selects "BoxedHeirsModel" ⟨"BoxedHeirsModel", "couldHold", "(II)Z"⟩ ⟨"BoxedHeirsModel", "couldHold", "(II)Z"⟩ ∈ TB := TB_in (List.mem_of_getElem? (i := 43) (by decide +kernel)) rfl
theorem wk_44 : Cond.selects "BoxedHeirsModel" ⟨"BoxedHeirsModel", "whoHolds", "(II)I"⟩ ⟨"BoxedHeirsModel", "whoHolds", "(II)I"⟩ ∈ TB := TB_in (List.mem_of_getElem? (i := 44) (by decide +kernel)) rfl
theorem wk_45 : Cond.selects "BoxedHeirsModel" ⟨"BoxedHeirsModel", "catchesOf", "(I)I"⟩ ⟨"BoxedHeirsModel", "catchesOf", "(I)I"⟩ ∈ TB := TB_in (List.mem_of_getElem? (i := 45) (by decide +kernel)) rfl
theorem wk_47 : Cond.initialized "BoxedHeirs" ∈ TB := TB_in (List.mem_of_getElem? (i := 47) (by decide +kernel)) rfl
theorem wk_48 : Cond.initialized "BoxedHeirs$Reader" ∈ TB := TB_in (List.mem_of_getElem? (i := 48) (by decide +kernel)) rfl
theorem wk_49 : Cond.initialized "BoxedHeirs$Realm" ∈ TB := TB_in (List.mem_of_getElem? (i := 49) (by decide +kernel)) rfl
theorem wk_50 : Cond.initialized "BoxedHeirs$Scene" ∈ TB := TB_in (List.mem_of_getElem? (i := 50) (by decide +kernel)) rfl
theorem wk_51 : Cond.initialized "BoxedHeirs$Past" ∈ TB := TB_in (List.mem_of_getElem? (i := 51) (by decide +kernel)) rfl
theorem wk_52 : Cond.initialized "BoxedHeirs$Album" ∈ TB := TB_in (List.mem_of_getElem? (i := 52) (by decide +kernel)) rfl
theorem wk_53 : Cond.initialized "BoxedHeirs$Sightings" ∈ TB := TB_in (List.mem_of_getElem? (i := 53) (by decide +kernel)) rfl
theorem wk_54 : Cond.initialized "BoxedHeirs$Ledger" ∈ TB := TB_in (List.mem_of_getElem? (i := 54) (by decide +kernel)) rfl
theorem wk_55 : Cond.initialized "BoxedHeirs$Forecast" ∈ TB := TB_in (List.mem_of_getElem? (i := 55) (by decide +kernel)) rfl
theorem wk_56 : Cond.initialized "BoxedHeirs$Posting" ∈ TB := TB_in (List.mem_of_getElem? (i := 56) (by decide +kernel)) rfl
theorem wk_57 : Cond.initialized "BoxedHeirsModel" ∈ TB := TB_in (List.mem_of_getElem? (i := 57) (by decide +kernel)) rfl
theorem wk_58 : Cond.initialized "java/lang/System" ∈ TB := TB_in (List.mem_of_getElem? (i := 58) (by decide +kernel)) rfl
theorem wk_60 : Cond.initialized "java/lang/Integer" ∈ TB := TB_in (List.mem_of_getElem? (i := 60) (by decide +kernel)) rfl
theorem wk_81 : Cond.fieldLink "BoxedHeirs$Realm" 30 "BoxedHeirs$Realm" "rustEach" "I" ∈ TB := TB_in (List.mem_of_getElem? (i := 81) (by decide +kernel)) rfl
theorem wk_82 : Cond.fieldLink "BoxedHeirs$Reader" 79 "BoxedHeirs$Realm" "rustEach" "I" ∈ TB := TB_in (List.mem_of_getElem? (i := 82) (by decide +kernel)) rfl
theorem wk_83 : Cond.fieldLink "BoxedHeirs" 108 "BoxedHeirs$Realm" "rustEach" "I" ∈ TB := TB_in (List.mem_of_getElem? (i := 83) (by decide +kernel)) rfl
theorem wk_84 : Cond.fieldLink "BoxedHeirs$Scene" 45 "BoxedHeirs$Realm" "rustEach" "I" ∈ TB := TB_in (List.mem_of_getElem? (i := 84) (by decide +kernel)) rfl
theorem wk_85 : Cond.fieldLink "BoxedHeirs$Forecast" 15 "BoxedHeirs$Realm" "boxes" "I" ∈ TB := TB_in (List.mem_of_getElem? (i := 85) (by decide +kernel)) rfl
theorem wk_86 : Cond.fieldLink "BoxedHeirs$Realm" 34 "BoxedHeirs$Realm" "boxes" "I" ∈ TB := TB_in (List.mem_of_getElem? (i := 86) (by decide +kernel)) rfl
theorem wk_87 : Cond.fieldLink "BoxedHeirs$Posting" 24 "BoxedHeirs$Realm" "boxes" "I" ∈ TB := TB_in (List.mem_of_getElem? (i := 87) (by decide +kernel)) rfl
theorem wk_88 : Cond.fieldLink "BoxedHeirs" 101 "BoxedHeirs$Realm" "boxes" "I" ∈ TB := TB_in (List.mem_of_getElem? (i := 88) (by decide +kernel)) rfl
theorem wk_89 : Cond.fieldLink "BoxedHeirs$Reader" 82 "BoxedHeirs$Realm" "boxes" "I" ∈ TB := TB_in (List.mem_of_getElem? (i := 89) (by decide +kernel)) rfl
theorem wk_90 : Cond.fieldLink "BoxedHeirs$Scene" 21 "BoxedHeirs$Realm" "boxes" "I" ∈ TB := TB_in (List.mem_of_getElem? (i := 90) (by decide +kernel)) rfl
theorem wk_91 : Cond.fieldLink "BoxedHeirs$Realm" 37 "BoxedHeirs$Realm" "regents" "I" ∈ TB := TB_in (List.mem_of_getElem? (i := 91) (by decide +kernel)) rfl
theorem wk_92 : Cond.fieldLink "BoxedHeirs$Posting" 18 "BoxedHeirs$Realm" "regents" "I" ∈ TB := TB_in (List.mem_of_getElem? (i := 92) (by decide +kernel)) rfl
theorem wk_93 : Cond.fieldLink "BoxedHeirs" 111 "BoxedHeirs$Realm" "regents" "I" ∈ TB := TB_in (List.mem_of_getElem? (i := 93) (by decide +kernel)) rfl
theorem wk_94 : Cond.fieldLink "BoxedHeirs$Reader" 95 "BoxedHeirs$Realm" "regents" "I" ∈ TB := TB_in (List.mem_of_getElem? (i := 94) (by decide +kernel)) rfl
theorem wk_95 : Cond.fieldLink "BoxedHeirs$Scene" 61 "BoxedHeirs$Realm" "regents" "I" ∈ TB := TB_in (List.mem_of_getElem? (i := 95) (by decide +kernel)) rfl
theorem wk_96 : Cond.fieldLink "BoxedHeirs$Realm" 9 "BoxedHeirs$Realm" "tune" "[I" ∈ TB := TB_in (List.mem_of_getElem? (i := 96) (by decide +kernel)) rfl
theorem wk_97 : Cond.fieldLink "BoxedHeirs" 151 "BoxedHeirs$Realm" "tune" "[I" ∈ TB := TB_in (List.mem_of_getElem? (i := 97) (by decide +kernel)) rfl
theorem wk_98 : Cond.fieldLink "BoxedHeirs$Scene" 76 "BoxedHeirs$Realm" "tune" "[I" ∈ TB := TB_in (List.mem_of_getElem? (i := 98) (by decide +kernel)) rfl
theorem wk_99 : Cond.fieldLink "BoxedHeirs$Realm" 15 "BoxedHeirs$Realm" "hook" "[I" ∈ TB := TB_in (List.mem_of_getElem? (i := 99) (by decide +kernel)) rfl
theorem wk_100 : Cond.fieldLink "BoxedHeirs" 155 "BoxedHeirs$Realm" "hook" "[I" ∈ TB := TB_in (List.mem_of_getElem? (i := 100) (by decide +kernel)) rfl
theorem wk_101 : Cond.fieldLink "BoxedHeirs$Scene" 79 "BoxedHeirs$Realm" "hook" "[I" ∈ TB := TB_in (List.mem_of_getElem? (i := 101) (by decide +kernel)) rfl
theorem wk_102 : Cond.fieldLink "BoxedHeirs$Realm" 18 "BoxedHeirs$Realm" "spring" "[I" ∈ TB := TB_in (List.mem_of_getElem? (i := 102) (by decide +kernel)) rfl
theorem wk_103 : Cond.fieldLink "BoxedHeirs" 158 "BoxedHeirs$Realm" "spring" "[I" ∈ TB := TB_in (List.mem_of_getElem? (i := 103) (by decide +kernel)) rfl
theorem wk_104 : Cond.fieldLink "BoxedHeirs$Realm" 21 "BoxedHeirs$Realm" "kind" "[I" ∈ TB := TB_in (List.mem_of_getElem? (i := 104) (by decide +kernel)) rfl
theorem wk_105 : Cond.fieldLink "BoxedHeirs" 161 "BoxedHeirs$Realm" "kind" "[I" ∈ TB := TB_in (List.mem_of_getElem? (i := 105) (by decide +kernel)) rfl
theorem wk_106 : Cond.fieldLink "BoxedHeirs$Realm" 24 "BoxedHeirs$Realm" "outer" "[I" ∈ TB := TB_in (List.mem_of_getElem? (i := 106) (by decide +kernel)) rfl
theorem wk_107 : Cond.fieldLink "BoxedHeirs$Forecast" 31 "BoxedHeirs$Realm" "outer" "[I" ∈ TB := TB_in (List.mem_of_getElem? (i := 107) (by decide +kernel)) rfl
theorem wk_108 : Cond.fieldLink "BoxedHeirs" 180 "BoxedHeirs$Realm" "outer" "[I" ∈ TB := TB_in (List.mem_of_getElem? (i := 108) (by decide +kernel)) rfl
theorem wk_109 : Cond.fieldLink "BoxedHeirs$Reader" 89 "BoxedHeirs$Realm" "outer" "[I" ∈ TB := TB_in (List.mem_of_getElem? (i := 109) (by decide +kernel)) rfl
theorem wk_110 : Cond.fieldLink "BoxedHeirs$Scene" 70 "BoxedHeirs$Realm" "outer" "[I" ∈ TB := TB_in (List.mem_of_getElem? (i := 110) (by decide +kernel)) rfl
theorem wk_111 : Cond.fieldLink "BoxedHeirs$Realm" 27 "BoxedHeirs$Realm" "weight" "[I" ∈ TB := TB_in (List.mem_of_getElem? (i := 111) (by decide +kernel)) rfl
theorem wk_112 : Cond.fieldLink "BoxedHeirs$Posting" 40 "BoxedHeirs$Realm" "weight" "[I" ∈ TB := TB_in (List.mem_of_getElem? (i := 112) (by decide +kernel)) rfl
theorem wk_113 : Cond.fieldLink "BoxedHeirs" 195 "BoxedHeirs$Realm" "weight" "[I" ∈ TB := TB_in (List.mem_of_getElem? (i := 113) (by decide +kernel)) rfl
theorem wk_114 : Cond.fieldLink "BoxedHeirs$Scene" 64 "BoxedHeirs$Realm" "weight" "[I" ∈ TB := TB_in (List.mem_of_getElem? (i := 114) (by decide +kernel)) rfl
theorem wk_135 : Cond.fieldLink "BoxedHeirs$Reader" 12 "BoxedHeirs$Reader" "draft" "LBoxedHeirs$Realm;" ∈ TB := TB_in (List.mem_of_getElem? (i := 135) (by decide +kernel)) rfl
theorem wk_136 : Cond.fieldLink "BoxedHeirs" 88 "BoxedHeirs$Reader" "draft" "LBoxedHeirs$Realm;" ∈ TB := TB_in (List.mem_of_getElem? (i := 136) (by decide +kernel)) rfl
theorem wk_137 : Cond.fieldLink "BoxedHeirs$Reader" 18 "BoxedHeirs$Reader" "letters" "[I" ∈ TB := TB_in (List.mem_of_getElem? (i := 137) (by decide +kernel)) rfl
theorem wk_138 : Cond.fieldLink "BoxedHeirs$Reader" 26 "BoxedHeirs$Reader" "count" "I" ∈ TB := TB_in (List.mem_of_getElem? (i := 138) (by decide +kernel)) rfl
theorem wk_139 : Cond.fieldLink "BoxedHeirs" 114 "BoxedHeirs$Reader" "count" "I" ∈ TB := TB_in (List.mem_of_getElem? (i := 139) (by decide +kernel)) rfl
theorem wk_140 : Cond.fieldLink "BoxedHeirs$Reader" 22 "BoxedHeirs$Reader" "faultAt" "I" ∈ TB := TB_in (List.mem_of_getElem? (i := 140) (by decide +kernel)) rfl
theorem wk_141 : Cond.fieldLink "BoxedHeirs" 105 "BoxedHeirs$Reader" "faultAt" "I" ∈ TB := TB_in (List.mem_of_getElem? (i := 141) (by decide +kernel)) rfl
theorem wk_142 : Cond.fieldLink "BoxedHeirs$Reader" 39 "BoxedHeirs$Reader" "faultKind" "I" ∈ TB := TB_in (List.mem_of_getElem? (i := 142) (by decide +kernel)) rfl
theorem wk_143 : Cond.fieldLink "BoxedHeirs$Reader" 36 "BoxedHeirs$Reader" "place" "I" ∈ TB := TB_in (List.mem_of_getElem? (i := 143) (by decide +kernel)) rfl
theorem wk_144 : Cond.fieldLink "BoxedHeirs$Reader" 92 "BoxedHeirs$Reader" "numberAt" "I" ∈ TB := TB_in (List.mem_of_getElem? (i := 144) (by decide +kernel)) rfl
theorem wk_145 : Cond.fieldLink "BoxedHeirs$Reader" 33 "BoxedHeirs$Reader" "nestings" "I" ∈ TB := TB_in (List.mem_of_getElem? (i := 145) (by decide +kernel)) rfl
theorem wk_171 : Cond.fieldLink "BoxedHeirs$Scene" 11 "BoxedHeirs$Scene" "cells" "[I" ∈ TB := TB_in (List.mem_of_getElem? (i := 171) (by decide +kernel)) rfl
theorem wk_172 : Cond.fieldLink "BoxedHeirs$Past" 17 "BoxedHeirs$Scene" "cells" "[I" ∈ TB := TB_in (List.mem_of_getElem? (i := 172) (by decide +kernel)) rfl
theorem wk_173 : Cond.fieldLink "BoxedHeirs$Album" 24 "BoxedHeirs$Scene" "cells" "[I" ∈ TB := TB_in (List.mem_of_getElem? (i := 173) (by decide +kernel)) rfl
theorem wk_183 : Cond.fieldLink "BoxedHeirs$Past" 11 "BoxedHeirs$Past" "cells" "[I" ∈ TB := TB_in (List.mem_of_getElem? (i := 183) (by decide +kernel)) rfl
theorem wk_184 : Cond.fieldLink "BoxedHeirs$Past" 28 "BoxedHeirs$Past" "count" "I" ∈ TB := TB_in (List.mem_of_getElem? (i := 184) (by decide +kernel)) rfl
theorem wk_185 : Cond.fieldLink "BoxedHeirs" 141 "BoxedHeirs$Past" "count" "I" ∈ TB := TB_in (List.mem_of_getElem? (i := 185) (by decide +kernel)) rfl
theorem wk_186 : Cond.fieldLink "BoxedHeirs$Past" 18 "BoxedHeirs$Past" "top" "I" ∈ TB := TB_in (List.mem_of_getElem? (i := 186) (by decide +kernel)) rfl
theorem wk_200 : Cond.fieldLink "BoxedHeirs$Album" 11 "BoxedHeirs$Album" "cells" "[I" ∈ TB := TB_in (List.mem_of_getElem? (i := 200) (by decide +kernel)) rfl
theorem wk_201 : Cond.fieldLink "BoxedHeirs$Album" 17 "BoxedHeirs$Album" "seeds" "[I" ∈ TB := TB_in (List.mem_of_getElem? (i := 201) (by decide +kernel)) rfl
theorem wk_202 : Cond.fieldLink "BoxedHeirs$Album" 20 "BoxedHeirs$Album" "kept" "I" ∈ TB := TB_in (List.mem_of_getElem? (i := 202) (by decide +kernel)) rfl
theorem wk_216 : Cond.fieldLink "BoxedHeirs$Sightings" 9 "BoxedHeirs$Sightings" "bars" "[I" ∈ TB := TB_in (List.mem_of_getElem? (i := 216) (by decide +kernel)) rfl
theorem wk_217 : Cond.fieldLink "BoxedHeirs$Sightings" 19 "BoxedHeirs$Sightings" "lifted" "I" ∈ TB := TB_in (List.mem_of_getElem? (i := 217) (by decide +kernel)) rfl
theorem wk_218 : Cond.fieldLink "BoxedHeirs$Sightings" 15 "BoxedHeirs$Sightings" "count" "I" ∈ TB := TB_in (List.mem_of_getElem? (i := 218) (by decide +kernel)) rfl
theorem wk_219 : Cond.fieldLink "BoxedHeirs" 139 "BoxedHeirs$Sightings" "count" "I" ∈ TB := TB_in (List.mem_of_getElem? (i := 219) (by decide +kernel)) rfl
theorem wk_233 : Cond.fieldLink "BoxedHeirs$Ledger" 9 "BoxedHeirs$Ledger" "boxes" "[I" ∈ TB := TB_in (List.mem_of_getElem? (i := 233) (by decide +kernel)) rfl
theorem wk_234 : Cond.fieldLink "BoxedHeirs$Ledger" 15 "BoxedHeirs$Ledger" "bars" "[I" ∈ TB := TB_in (List.mem_of_getElem? (i := 234) (by decide +kernel)) rfl
theorem wk_235 : Cond.fieldLink "BoxedHeirs$Ledger" 18 "BoxedHeirs$Ledger" "count" "I" ∈ TB := TB_in (List.mem_of_getElem? (i := 235) (by decide +kernel)) rfl
theorem wk_236 : Cond.fieldLink "BoxedHeirs" 140 "BoxedHeirs$Ledger" "count" "I" ∈ TB := TB_in (List.mem_of_getElem? (i := 236) (by decide +kernel)) rfl
theorem wk_250 : Cond.fieldLink "BoxedHeirs$Forecast" 9 "BoxedHeirs$Forecast" "behind" "[I" ∈ TB := TB_in (List.mem_of_getElem? (i := 250) (by decide +kernel)) rfl
theorem wk_251 : Cond.fieldLink "BoxedHeirs" 248 "BoxedHeirs$Forecast" "behind" "[I" ∈ TB := TB_in (List.mem_of_getElem? (i := 251) (by decide +kernel)) rfl
theorem wk_261 : Cond.fieldLink "BoxedHeirs$Posting" 11 "BoxedHeirs$Posting" "most" "[I" ∈ TB := TB_in (List.mem_of_getElem? (i := 261) (by decide +kernel)) rfl
theorem wk_262 : Cond.fieldLink "BoxedHeirs$Posting" 15 "BoxedHeirs$Posting" "holder" "[I" ∈ TB := TB_in (List.mem_of_getElem? (i := 262) (by decide +kernel)) rfl
theorem wk_263 : Cond.fieldLink "BoxedHeirs" 288 "BoxedHeirs$Posting" "holder" "[I" ∈ TB := TB_in (List.mem_of_getElem? (i := 263) (by decide +kernel)) rfl
theorem wk_269 : Cond.methodLink "BoxedHeirs" 76 ⟨"BoxedHeirs$Scene", "clear", "()V"⟩ ∈ TB := TB_in (List.mem_of_getElem? (i := 269) (by decide +kernel)) rfl
theorem wk_270 : Cond.instanceMethod ⟨"BoxedHeirs$Scene", "clear", "()V"⟩ ∈ TB := TB_in (List.mem_of_getElem? (i := 270) (by decide +kernel)) rfl
theorem wk_271 : Cond.selects "BoxedHeirs$Scene" ⟨"BoxedHeirs$Scene", "clear", "()V"⟩ ⟨"BoxedHeirs$Scene", "clear", "()V"⟩ ∈ TB := TB_in (List.mem_of_getElem? (i := 271) (by decide +kernel)) rfl
theorem wk_272 : Cond.code ⟨"BoxedHeirs$Scene", "clear", "()V"⟩ prog_9_method_2_code 2 none ∈ TB := TB_in (List.mem_of_getElem? (i := 272) (by decide +kernel)) rfl
theorem wk_273 : Cond.fieldLink "BoxedHeirs" 12 "BoxedHeirs" "reader" "LBoxedHeirs$Reader;" ∈ TB := TB_in (List.mem_of_getElem? (i := 273) (by decide +kernel)) rfl
theorem wk_274 : Cond.fieldLink "BoxedHeirs" 19 "BoxedHeirs" "realm" "LBoxedHeirs$Realm;" ∈ TB := TB_in (List.mem_of_getElem? (i := 274) (by decide +kernel)) rfl
theorem wk_275 : Cond.fieldLink "BoxedHeirs" 26 "BoxedHeirs" "now" "LBoxedHeirs$Scene;" ∈ TB := TB_in (List.mem_of_getElem? (i := 275) (by decide +kernel)) rfl
theorem wk_276 : Cond.fieldLink "BoxedHeirs" 33 "BoxedHeirs" "past" "LBoxedHeirs$Past;" ∈ TB := TB_in (List.mem_of_getElem? (i := 276) (by decide +kernel)) rfl
theorem wk_277 : Cond.fieldLink "BoxedHeirs" 40 "BoxedHeirs" "album" "LBoxedHeirs$Album;" ∈ TB := TB_in (List.mem_of_getElem? (i := 277) (by decide +kernel)) rfl
theorem wk_278 : Cond.fieldLink "BoxedHeirs" 47 "BoxedHeirs" "sightings" "LBoxedHeirs$Sightings;" ∈ TB := TB_in (List.mem_of_getElem? (i := 278) (by decide +kernel)) rfl
theorem wk_279 : Cond.fieldLink "BoxedHeirs" 54 "BoxedHeirs" "ledger" "LBoxedHeirs$Ledger;" ∈ TB := TB_in (List.mem_of_getElem? (i := 279) (by decide +kernel)) rfl
theorem wk_280 : Cond.fieldLink "BoxedHeirs" 61 "BoxedHeirs" "forecast" "LBoxedHeirs$Forecast;" ∈ TB := TB_in (List.mem_of_getElem? (i := 280) (by decide +kernel)) rfl
theorem wk_281 : Cond.fieldLink "BoxedHeirs" 68 "BoxedHeirs" "posting" "LBoxedHeirs$Posting;" ∈ TB := TB_in (List.mem_of_getElem? (i := 281) (by decide +kernel)) rfl
theorem wk_282 : Cond.fieldLink "BoxedHeirs" 72 "BoxedHeirs" "marks" "[J" ∈ TB := TB_in (List.mem_of_getElem? (i := 282) (by decide +kernel)) rfl
theorem wk_283 : Cond.fieldLink "BoxedHeirs" 323 "BoxedHeirs" "lastDraw" "I" ∈ TB := TB_in (List.mem_of_getElem? (i := 283) (by decide +kernel)) rfl
theorem wk_312 : Cond.constant "BoxedHeirs" 79 (-1000000002) ∈ TB := TB_in (List.mem_of_getElem? (i := 312) (by decide +kernel)) rfl
theorem wk_313 : Cond.methodLink "BoxedHeirs" 80 ⟨"BoxedHeirs$Reader", "append", "(I)I"⟩ ∈ TB := TB_in (List.mem_of_getElem? (i := 313) (by decide +kernel)) rfl
theorem wk_314 : Cond.instanceMethod ⟨"BoxedHeirs$Reader", "append", "(I)I"⟩ ∈ TB := TB_in (List.mem_of_getElem? (i := 314) (by decide +kernel)) rfl
theorem wk_315 : Cond.selects "BoxedHeirs$Reader" ⟨"BoxedHeirs$Reader", "append", "(I)I"⟩ ⟨"BoxedHeirs$Reader", "append", "(I)I"⟩ ∈ TB := TB_in (List.mem_of_getElem? (i := 315) (by decide +kernel)) rfl
theorem wk_316 : Cond.code ⟨"BoxedHeirs$Reader", "append", "(I)I"⟩ prog_7_method_2_code 2 (some .int) ∈ TB := TB_in (List.mem_of_getElem? (i := 316) (by decide +kernel)) rfl
theorem wk_317 : Cond.constant "BoxedHeirs$Reader" 29 (-1000000004) ∈ TB := TB_in (List.mem_of_getElem? (i := 317) (by decide +kernel)) rfl
theorem wk_322 : Cond.methodLink "BoxedHeirs" 84 ⟨"BoxedHeirs$Reader", "parse", "()I"⟩ ∈ TB := TB_in (List.mem_of_getElem? (i := 322) (by decide +kernel)) rfl
theorem wk_323 : Cond.instanceMethod ⟨"BoxedHeirs$Reader", "parse", "()I"⟩ ∈ TB := TB_in (List.mem_of_getElem? (i := 323) (by decide +kernel)) rfl
theorem wk_324 : Cond.selects "BoxedHeirs$Reader" ⟨"BoxedHeirs$Reader", "parse", "()I"⟩ ⟨"BoxedHeirs$Reader", "parse", "()I"⟩ ∈ TB := TB_in (List.mem_of_getElem? (i := 324) (by decide +kernel)) rfl
theorem wk_325 : Cond.code ⟨"BoxedHeirs$Reader", "parse", "()I"⟩ prog_7_method_3_code 2 (some .int) ∈ TB := TB_in (List.mem_of_getElem? (i := 325) (by decide +kernel)) rfl
theorem wk_326 : Cond.methodLink "BoxedHeirs$Reader" 30 ⟨"BoxedHeirs$Realm", "clear", "()V"⟩ ∈ TB := TB_in (List.mem_of_getElem? (i := 326) (by decide +kernel)) rfl
theorem wk_327 : Cond.instanceMethod ⟨"BoxedHeirs$Realm", "clear", "()V"⟩ ∈ TB := TB_in (List.mem_of_getElem? (i := 327) (by decide +kernel)) rfl
theorem wk_328 : Cond.selects "BoxedHeirs$Realm" ⟨"BoxedHeirs$Realm", "clear", "()V"⟩ ⟨"BoxedHeirs$Realm", "clear", "()V"⟩ ∈ TB := TB_in (List.mem_of_getElem? (i := 328) (by decide +kernel)) rfl
theorem wk_329 : Cond.code ⟨"BoxedHeirs$Realm", "clear", "()V"⟩ prog_8_method_2_code 1 none ∈ TB := TB_in (List.mem_of_getElem? (i := 329) (by decide +kernel)) rfl
theorem wk_330 : Cond.methodLink "BoxedHeirs$Reader" 42 ⟨"BoxedHeirs$Reader", "skipBlanks", "()V"⟩ ∈ TB := TB_in (List.mem_of_getElem? (i := 330) (by decide +kernel)) rfl
theorem wk_331 : Cond.instanceMethod ⟨"BoxedHeirs$Reader", "skipBlanks", "()V"⟩ ∈ TB := TB_in (List.mem_of_getElem? (i := 331) (by decide +kernel)) rfl
theorem wk_332 : Cond.selects "BoxedHeirs$Reader" ⟨"BoxedHeirs$Reader", "skipBlanks", "()V"⟩ ⟨"BoxedHeirs$Reader", "skipBlanks", "()V"⟩ ∈ TB := TB_in (List.mem_of_getElem? (i := 332) (by decide +kernel)) rfl
theorem wk_333 : Cond.code ⟨"BoxedHeirs$Reader", "skipBlanks", "()V"⟩ prog_7_method_12_code 1 none ∈ TB := TB_in (List.mem_of_getElem? (i := 333) (by decide +kernel)) rfl
theorem wk_334 : Cond.methodLink "BoxedHeirs$Reader" 45 ⟨"BoxedHeirs$Reader", "readClause", "()V"⟩ ∈ TB := TB_in (List.mem_of_getElem? (i := 334) (by decide +kernel)) rfl
theorem wk_335 : Cond.instanceMethod ⟨"BoxedHeirs$Reader", "readClause", "()V"⟩ ∈ TB := TB_in (List.mem_of_getElem? (i := 335) (by decide +kernel)) rfl
theorem wk_336 : Cond.selects "BoxedHeirs$Reader" ⟨"BoxedHeirs$Reader", "readClause", "()V"⟩ ⟨"BoxedHeirs$Reader", "readClause", "()V"⟩ ∈ TB := TB_in (List.mem_of_getElem? (i := 336) (by decide +kernel)) rfl
theorem wk_337 : Cond.code ⟨"BoxedHeirs$Reader", "readClause", "()V"⟩ prog_7_method_4_code 2 none ∈ TB := TB_in (List.mem_of_getElem? (i := 337) (by decide +kernel)) rfl
theorem wk_338 : Cond.methodLink "BoxedHeirs$Reader" 48 ⟨"BoxedHeirs$Realm", "exists", "()Z"⟩ ∈ TB := TB_in (List.mem_of_getElem? (i := 338) (by decide +kernel)) rfl
theorem wk_339 : Cond.instanceMethod ⟨"BoxedHeirs$Realm", "exists", "()Z"⟩ ∈ TB := TB_in (List.mem_of_getElem? (i := 339) (by decide +kernel)) rfl
theorem wk_340 : Cond.selects "BoxedHeirs$Realm" ⟨"BoxedHeirs$Realm", "exists", "()Z"⟩ ⟨"BoxedHeirs$Realm", "exists", "()Z"⟩ ∈ TB := TB_in (List.mem_of_getElem? (i := 340) (by decide +kernel)) rfl
theorem wk_341 : Cond.code ⟨"BoxedHeirs$Realm", "exists", "()Z"⟩ prog_8_method_6_code 1 (some .boolean) ∈ TB := TB_in (List.mem_of_getElem? (i := 341) (by decide +kernel)) rfl
theorem wk_342 : Cond.methodLink "BoxedHeirs$Reader" 52 ⟨"BoxedHeirs$Reader", "blame", "(II)V"⟩ ∈ TB := TB_in (List.mem_of_getElem? (i := 342) (by decide +kernel)) rfl
theorem wk_343 : Cond.instanceMethod ⟨"BoxedHeirs$Reader", "blame", "(II)V"⟩ ∈ TB := TB_in (List.mem_of_getElem? (i := 343) (by decide +kernel)) rfl
theorem wk_344 : Cond.selects "BoxedHeirs$Reader" ⟨"BoxedHeirs$Reader", "blame", "(II)V"⟩ ⟨"BoxedHeirs$Reader", "blame", "(II)V"⟩ ∈ TB := TB_in (List.mem_of_getElem? (i := 344) (by decide +kernel)) rfl
theorem wk_345 : Cond.code ⟨"BoxedHeirs$Reader", "blame", "(II)V"⟩ prog_7_method_13_code 3 none ∈ TB := TB_in (List.mem_of_getElem? (i := 345) (by decide +kernel)) rfl
theorem wk_346 : Cond.methodLink "BoxedHeirs$Reader" 56 ⟨"BoxedHeirs$Reader", "readRust", "()V"⟩ ∈ TB := TB_in (List.mem_of_getElem? (i := 346) (by decide +kernel)) rfl
theorem wk_347 : Cond.instanceMethod ⟨"BoxedHeirs$Reader", "readRust", "()V"⟩ ∈ TB := TB_in (List.mem_of_getElem? (i := 347) (by decide +kernel)) rfl
theorem wk_348 : Cond.selects "BoxedHeirs$Reader" ⟨"BoxedHeirs$Reader", "readRust", "()V"⟩ ⟨"BoxedHeirs$Reader", "readRust", "()V"⟩ ∈ TB := TB_in (List.mem_of_getElem? (i := 348) (by decide +kernel)) rfl
theorem wk_349 : Cond.code ⟨"BoxedHeirs$Reader", "readRust", "()V"⟩ prog_7_method_5_code 2 none ∈ TB := TB_in (List.mem_of_getElem? (i := 349) (by decide +kernel)) rfl
theorem wk_350 : Cond.methodLink "BoxedHeirs$Reader" 68 ⟨"BoxedHeirs$Reader", "opens", "(Z)Z"⟩ ∈ TB := TB_in (List.mem_of_getElem? (i := 350) (by decide +kernel)) rfl
theorem wk_351 : Cond.instanceMethod ⟨"BoxedHeirs$Reader", "opens", "(Z)Z"⟩ ∈ TB := TB_in (List.mem_of_getElem? (i := 351) (by decide +kernel)) rfl
theorem wk_352 : Cond.selects "BoxedHeirs$Reader" ⟨"BoxedHeirs$Reader", "opens", "(Z)Z"⟩ ⟨"BoxedHeirs$Reader", "opens", "(Z)Z"⟩ ∈ TB := TB_in (List.mem_of_getElem? (i := 352) (by decide +kernel)) rfl
theorem wk_353 : Cond.code ⟨"BoxedHeirs$Reader", "opens", "(Z)Z"⟩ prog_7_method_9_code 2 (some .boolean) ∈ TB := TB_in (List.mem_of_getElem? (i := 353) (by decide +kernel)) rfl
theorem wk_354 : Cond.methodLink "BoxedHeirs$Reader" 72 ⟨"BoxedHeirs$Reader", "readNumber", "(II)I"⟩ ∈ TB := TB_in (List.mem_of_getElem? (i := 354) (by decide +kernel)) rfl
theorem wk_355 : Cond.instanceMethod ⟨"BoxedHeirs$Reader", "readNumber", "(II)I"⟩ ∈ TB := TB_in (List.mem_of_getElem? (i := 355) (by decide +kernel)) rfl
theorem wk_356 : Cond.selects "BoxedHeirs$Reader" ⟨"BoxedHeirs$Reader", "readNumber", "(II)I"⟩ ⟨"BoxedHeirs$Reader", "readNumber", "(II)I"⟩ ∈ TB := TB_in (List.mem_of_getElem? (i := 356) (by decide +kernel)) rfl
theorem wk_357 : Cond.code ⟨"BoxedHeirs$Reader", "readNumber", "(II)I"⟩ prog_7_method_11_code 5 (some .int) ∈ TB := TB_in (List.mem_of_getElem? (i := 357) (by decide +kernel)) rfl
theorem wk_358 : Cond.methodLink "BoxedHeirs$Reader" 76 ⟨"BoxedHeirs$Reader", "closes", "()Z"⟩ ∈ TB := TB_in (List.mem_of_getElem? (i := 358) (by decide +kernel)) rfl
theorem wk_359 : Cond.instanceMethod ⟨"BoxedHeirs$Reader", "closes", "()Z"⟩ ∈ TB := TB_in (List.mem_of_getElem? (i := 359) (by decide +kernel)) rfl
theorem wk_360 : Cond.selects "BoxedHeirs$Reader" ⟨"BoxedHeirs$Reader", "closes", "()Z"⟩ ⟨"BoxedHeirs$Reader", "closes", "()Z"⟩ ∈ TB := TB_in (List.mem_of_getElem? (i := 360) (by decide +kernel)) rfl
theorem wk_361 : Cond.code ⟨"BoxedHeirs$Reader", "closes", "()Z"⟩ prog_7_method_10_code 1 (some .boolean) ∈ TB := TB_in (List.mem_of_getElem? (i := 361) (by decide +kernel)) rfl
theorem wk_362 : Cond.methodLink "BoxedHeirs$Reader" 59 ⟨"BoxedHeirs$Reader", "readBox", "()V"⟩ ∈ TB := TB_in (List.mem_of_getElem? (i := 362) (by decide +kernel)) rfl
theorem wk_363 : Cond.instanceMethod ⟨"BoxedHeirs$Reader", "readBox", "()V"⟩ ∈ TB := TB_in (List.mem_of_getElem? (i := 363) (by decide +kernel)) rfl
theorem wk_364 : Cond.selects "BoxedHeirs$Reader" ⟨"BoxedHeirs$Reader", "readBox", "()V"⟩ ⟨"BoxedHeirs$Reader", "readBox", "()V"⟩ ∈ TB := TB_in (List.mem_of_getElem? (i := 364) (by decide +kernel)) rfl
theorem wk_365 : Cond.code ⟨"BoxedHeirs$Reader", "readBox", "()V"⟩ prog_7_method_6_code 5 none ∈ TB := TB_in (List.mem_of_getElem? (i := 365) (by decide +kernel)) rfl
theorem wk_366 : Cond.methodLink "BoxedHeirs$Reader" 85 ⟨"BoxedHeirs$Realm", "addBox", "(IIII)V"⟩ ∈ TB := TB_in (List.mem_of_getElem? (i := 366) (by decide +kernel)) rfl
theorem wk_367 : Cond.instanceMethod ⟨"BoxedHeirs$Realm", "addBox", "(IIII)V"⟩ ∈ TB := TB_in (List.mem_of_getElem? (i := 367) (by decide +kernel)) rfl
theorem wk_368 : Cond.selects "BoxedHeirs$Realm" ⟨"BoxedHeirs$Realm", "addBox", "(IIII)V"⟩ ⟨"BoxedHeirs$Realm", "addBox", "(IIII)V"⟩ ∈ TB := TB_in (List.mem_of_getElem? (i := 368) (by decide +kernel)) rfl
theorem wk_369 : Cond.code ⟨"BoxedHeirs$Realm", "addBox", "(IIII)V"⟩ prog_8_method_4_code 5 none ∈ TB := TB_in (List.mem_of_getElem? (i := 369) (by decide +kernel)) rfl
theorem wk_370 : Cond.methodLink "BoxedHeirs$Reader" 62 ⟨"BoxedHeirs$Reader", "readNesting", "()V"⟩ ∈ TB := TB_in (List.mem_of_getElem? (i := 370) (by decide +kernel)) rfl
theorem wk_371 : Cond.instanceMethod ⟨"BoxedHeirs$Reader", "readNesting", "()V"⟩ ∈ TB := TB_in (List.mem_of_getElem? (i := 371) (by decide +kernel)) rfl
theorem wk_372 : Cond.selects "BoxedHeirs$Reader" ⟨"BoxedHeirs$Reader", "readNesting", "()V"⟩ ⟨"BoxedHeirs$Reader", "readNesting", "()V"⟩ ∈ TB := TB_in (List.mem_of_getElem? (i := 372) (by decide +kernel)) rfl
theorem wk_373 : Cond.code ⟨"BoxedHeirs$Reader", "readNesting", "()V"⟩ prog_7_method_7_code 3 none ∈ TB := TB_in (List.mem_of_getElem? (i := 373) (by decide +kernel)) rfl
theorem wk_374 : Cond.methodLink "BoxedHeirs$Reader" 65 ⟨"BoxedHeirs$Reader", "readRegent", "()V"⟩ ∈ TB := TB_in (List.mem_of_getElem? (i := 374) (by decide +kernel)) rfl
theorem wk_375 : Cond.instanceMethod ⟨"BoxedHeirs$Reader", "readRegent", "()V"⟩ ∈ TB := TB_in (List.mem_of_getElem? (i := 375) (by decide +kernel)) rfl
theorem wk_376 : Cond.selects "BoxedHeirs$Reader" ⟨"BoxedHeirs$Reader", "readRegent", "()V"⟩ ⟨"BoxedHeirs$Reader", "readRegent", "()V"⟩ ∈ TB := TB_in (List.mem_of_getElem? (i := 376) (by decide +kernel)) rfl
theorem wk_377 : Cond.code ⟨"BoxedHeirs$Reader", "readRegent", "()V"⟩ prog_7_method_8_code 2 none ∈ TB := TB_in (List.mem_of_getElem? (i := 377) (by decide +kernel)) rfl
theorem wk_378 : Cond.methodLink "BoxedHeirs$Reader" 98 ⟨"BoxedHeirs$Realm", "addRegent", "(I)V"⟩ ∈ TB := TB_in (List.mem_of_getElem? (i := 378) (by decide +kernel)) rfl
theorem wk_379 : Cond.instanceMethod ⟨"BoxedHeirs$Realm", "addRegent", "(I)V"⟩ ∈ TB := TB_in (List.mem_of_getElem? (i := 379) (by decide +kernel)) rfl
theorem wk_380 : Cond.selects "BoxedHeirs$Realm" ⟨"BoxedHeirs$Realm", "addRegent", "(I)V"⟩ ⟨"BoxedHeirs$Realm", "addRegent", "(I)V"⟩ ∈ TB := TB_in (List.mem_of_getElem? (i := 380) (by decide +kernel)) rfl
theorem wk_381 : Cond.code ⟨"BoxedHeirs$Realm", "addRegent", "(I)V"⟩ prog_8_method_5_code 2 none ∈ TB := TB_in (List.mem_of_getElem? (i := 381) (by decide +kernel)) rfl
theorem wk_382 : Cond.methodLink "BoxedHeirs" 91 ⟨"BoxedHeirs$Realm", "take", "(LBoxedHeirs$Realm;)V"⟩ ∈ TB := TB_in (List.mem_of_getElem? (i := 382) (by decide +kernel)) rfl
theorem wk_383 : Cond.instanceMethod ⟨"BoxedHeirs$Realm", "take", "(LBoxedHeirs$Realm;)V"⟩ ∈ TB := TB_in (List.mem_of_getElem? (i := 383) (by decide +kernel)) rfl
theorem wk_384 : Cond.selects "BoxedHeirs$Realm" ⟨"BoxedHeirs$Realm", "take", "(LBoxedHeirs$Realm;)V"⟩ ⟨"BoxedHeirs$Realm", "take", "(LBoxedHeirs$Realm;)V"⟩ ∈ TB := TB_in (List.mem_of_getElem? (i := 384) (by decide +kernel)) rfl
theorem wk_385 : Cond.code ⟨"BoxedHeirs$Realm", "take", "(LBoxedHeirs$Realm;)V"⟩ prog_8_method_3_code 2 none ∈ TB := TB_in (List.mem_of_getElem? (i := 385) (by decide +kernel)) rfl
theorem wk_386 : Cond.methodLink "BoxedHeirs$Realm" 40 ⟨"java/lang/System", "arraycopy", "(Ljava/lang/Object;ILjava/lang/Object;II)V"⟩ ∈ TB := TB_in (List.mem_of_getElem? (i := 386) (by decide +kernel)) rfl
theorem wk_387 : Cond.static ⟨"java/lang/System", "arraycopy", "(Ljava/lang/Object;ILjava/lang/Object;II)V"⟩ ∈ TB := TB_in (List.mem_of_getElem? (i := 387) (by decide +kernel)) rfl
theorem wk_388 : Cond.native ⟨"java/lang/System", "arraycopy", "(Ljava/lang/Object;ILjava/lang/Object;II)V"⟩ ∈ TB := TB_in (List.mem_of_getElem? (i := 388) (by decide +kernel)) rfl
theorem wk_389 : Cond.methodLink "BoxedHeirs" 95 ⟨"BoxedHeirs$Past", "forget", "()V"⟩ ∈ TB := TB_in (List.mem_of_getElem? (i := 389) (by decide +kernel)) rfl
theorem wk_390 : Cond.instanceMethod ⟨"BoxedHeirs$Past", "forget", "()V"⟩ ∈ TB := TB_in (List.mem_of_getElem? (i := 390) (by decide +kernel)) rfl
theorem wk_391 : Cond.selects "BoxedHeirs$Past" ⟨"BoxedHeirs$Past", "forget", "()V"⟩ ⟨"BoxedHeirs$Past", "forget", "()V"⟩ ∈ TB := TB_in (List.mem_of_getElem? (i := 391) (by decide +kernel)) rfl
theorem wk_392 : Cond.code ⟨"BoxedHeirs$Past", "forget", "()V"⟩ prog_5_method_4_code 1 none ∈ TB := TB_in (List.mem_of_getElem? (i := 392) (by decide +kernel)) rfl
theorem wk_393 : Cond.methodLink "BoxedHeirs" 98 ⟨"BoxedHeirs$Album", "clear", "()V"⟩ ∈ TB := TB_in (List.mem_of_getElem? (i := 393) (by decide +kernel)) rfl
theorem wk_394 : Cond.instanceMethod ⟨"BoxedHeirs$Album", "clear", "()V"⟩ ∈ TB := TB_in (List.mem_of_getElem? (i := 394) (by decide +kernel)) rfl
theorem wk_395 : Cond.selects "BoxedHeirs$Album" ⟨"BoxedHeirs$Album", "clear", "()V"⟩ ⟨"BoxedHeirs$Album", "clear", "()V"⟩ ∈ TB := TB_in (List.mem_of_getElem? (i := 395) (by decide +kernel)) rfl
theorem wk_396 : Cond.code ⟨"BoxedHeirs$Album", "clear", "()V"⟩ prog_2_method_2_code 1 none ∈ TB := TB_in (List.mem_of_getElem? (i := 396) (by decide +kernel)) rfl
theorem wk_397 : Cond.methodLink "BoxedHeirs" 99 ⟨"BoxedHeirs$Sightings", "clear", "()V"⟩ ∈ TB := TB_in (List.mem_of_getElem? (i := 397) (by decide +kernel)) rfl
theorem wk_398 : Cond.instanceMethod ⟨"BoxedHeirs$Sightings", "clear", "()V"⟩ ∈ TB := TB_in (List.mem_of_getElem? (i := 398) (by decide +kernel)) rfl
theorem wk_399 : Cond.selects "BoxedHeirs$Sightings" ⟨"BoxedHeirs$Sightings", "clear", "()V"⟩ ⟨"BoxedHeirs$Sightings", "clear", "()V"⟩ ∈ TB := TB_in (List.mem_of_getElem? (i := 399) (by decide +kernel)) rfl
theorem wk_400 : Cond.code ⟨"BoxedHeirs$Sightings", "clear", "()V"⟩ prog_10_method_2_code 1 none ∈ TB := TB_in (List.mem_of_getElem? (i := 400) (by decide +kernel)) rfl
theorem wk_401 : Cond.methodLink "BoxedHeirs" 100 ⟨"BoxedHeirs$Ledger", "clear", "()V"⟩ ∈ TB := TB_in (List.mem_of_getElem? (i := 401) (by decide +kernel)) rfl
theorem wk_402 : Cond.instanceMethod ⟨"BoxedHeirs$Ledger", "clear", "()V"⟩ ∈ TB := TB_in (List.mem_of_getElem? (i := 402) (by decide +kernel)) rfl
theorem wk_403 : Cond.selects "BoxedHeirs$Ledger" ⟨"BoxedHeirs$Ledger", "clear", "()V"⟩ ⟨"BoxedHeirs$Ledger", "clear", "()V"⟩ ∈ TB := TB_in (List.mem_of_getElem? (i := 403) (by decide +kernel)) rfl
theorem wk_404 : Cond.code ⟨"BoxedHeirs$Ledger", "clear", "()V"⟩ prog_4_method_2_code 1 none ∈ TB := TB_in (List.mem_of_getElem? (i := 404) (by decide +kernel)) rfl
theorem wk_413 : Cond.methodLink "BoxedHeirs" 117 ⟨"BoxedHeirs$Scene", "bars", "()I"⟩ ∈ TB := TB_in (List.mem_of_getElem? (i := 413) (by decide +kernel)) rfl
theorem wk_414 : Cond.instanceMethod ⟨"BoxedHeirs$Scene", "bars", "()I"⟩ ∈ TB := TB_in (List.mem_of_getElem? (i := 414) (by decide +kernel)) rfl
theorem wk_415 : Cond.selects "BoxedHeirs$Scene" ⟨"BoxedHeirs$Scene", "bars", "()I"⟩ ⟨"BoxedHeirs$Scene", "bars", "()I"⟩ ∈ TB := TB_in (List.mem_of_getElem? (i := 415) (by decide +kernel)) rfl
theorem wk_416 : Cond.code ⟨"BoxedHeirs$Scene", "bars", "()I"⟩ prog_9_method_9_code 1 (some .int) ∈ TB := TB_in (List.mem_of_getElem? (i := 416) (by decide +kernel)) rfl
theorem wk_417 : Cond.methodLink "BoxedHeirs" 120 ⟨"BoxedHeirs$Scene", "whoIsUp", "()I"⟩ ∈ TB := TB_in (List.mem_of_getElem? (i := 417) (by decide +kernel)) rfl
theorem wk_418 : Cond.instanceMethod ⟨"BoxedHeirs$Scene", "whoIsUp", "()I"⟩ ∈ TB := TB_in (List.mem_of_getElem? (i := 418) (by decide +kernel)) rfl
theorem wk_419 : Cond.selects "BoxedHeirs$Scene" ⟨"BoxedHeirs$Scene", "whoIsUp", "()I"⟩ ⟨"BoxedHeirs$Scene", "whoIsUp", "()I"⟩ ∈ TB := TB_in (List.mem_of_getElem? (i := 419) (by decide +kernel)) rfl
theorem wk_420 : Cond.code ⟨"BoxedHeirs$Scene", "whoIsUp", "()I"⟩ prog_9_method_12_code 1 (some .int) ∈ TB := TB_in (List.mem_of_getElem? (i := 420) (by decide +kernel)) rfl
theorem wk_421 : Cond.methodLink "BoxedHeirs" 123 ⟨"BoxedHeirs$Scene", "whoSways", "()I"⟩ ∈ TB := TB_in (List.mem_of_getElem? (i := 421) (by decide +kernel)) rfl
theorem wk_422 : Cond.instanceMethod ⟨"BoxedHeirs$Scene", "whoSways", "()I"⟩ ∈ TB := TB_in (List.mem_of_getElem? (i := 422) (by decide +kernel)) rfl
theorem wk_423 : Cond.selects "BoxedHeirs$Scene" ⟨"BoxedHeirs$Scene", "whoSways", "()I"⟩ ⟨"BoxedHeirs$Scene", "whoSways", "()I"⟩ ∈ TB := TB_in (List.mem_of_getElem? (i := 423) (by decide +kernel)) rfl
theorem wk_424 : Cond.code ⟨"BoxedHeirs$Scene", "whoSways", "()I"⟩ prog_9_method_15_code 3 (some .int) ∈ TB := TB_in (List.mem_of_getElem? (i := 424) (by decide +kernel)) rfl
theorem wk_425 : Cond.methodLink "BoxedHeirs" 126 ⟨"BoxedHeirs$Scene", "whoIsHeld", "(LBoxedHeirs$Realm;)I"⟩ ∈ TB := TB_in (List.mem_of_getElem? (i := 425) (by decide +kernel)) rfl
theorem wk_426 : Cond.instanceMethod ⟨"BoxedHeirs$Scene", "whoIsHeld", "(LBoxedHeirs$Realm;)I"⟩ ∈ TB := TB_in (List.mem_of_getElem? (i := 426) (by decide +kernel)) rfl
theorem wk_427 : Cond.selects "BoxedHeirs$Scene" ⟨"BoxedHeirs$Scene", "whoIsHeld", "(LBoxedHeirs$Realm;)I"⟩ ⟨"BoxedHeirs$Scene", "whoIsHeld", "(LBoxedHeirs$Realm;)I"⟩ ∈ TB := TB_in (List.mem_of_getElem? (i := 427) (by decide +kernel)) rfl
theorem wk_428 : Cond.code ⟨"BoxedHeirs$Scene", "whoIsHeld", "(LBoxedHeirs$Realm;)I"⟩ prog_9_method_16_code 4 (some .int) ∈ TB := TB_in (List.mem_of_getElem? (i := 428) (by decide +kernel)) rfl
theorem wk_429 : Cond.methodLink "BoxedHeirs$Scene" 27 ⟨"BoxedHeirs$Scene", "forceOf", "(LBoxedHeirs$Realm;I)I"⟩ ∈ TB := TB_in (List.mem_of_getElem? (i := 429) (by decide +kernel)) rfl
theorem wk_430 : Cond.instanceMethod ⟨"BoxedHeirs$Scene", "forceOf", "(LBoxedHeirs$Realm;I)I"⟩ ∈ TB := TB_in (List.mem_of_getElem? (i := 430) (by decide +kernel)) rfl
theorem wk_431 : Cond.selects "BoxedHeirs$Scene" ⟨"BoxedHeirs$Scene", "forceOf", "(LBoxedHeirs$Realm;I)I"⟩ ⟨"BoxedHeirs$Scene", "forceOf", "(LBoxedHeirs$Realm;I)I"⟩ ∈ TB := TB_in (List.mem_of_getElem? (i := 431) (by decide +kernel)) rfl
theorem wk_432 : Cond.code ⟨"BoxedHeirs$Scene", "forceOf", "(LBoxedHeirs$Realm;I)I"⟩ prog_9_method_17_code 3 (some .int) ∈ TB := TB_in (List.mem_of_getElem? (i := 432) (by decide +kernel)) rfl
theorem wk_433 : Cond.methodLink "BoxedHeirs$Scene" 35 ⟨"BoxedHeirs$Scene", "rustOf", "(I)I"⟩ ∈ TB := TB_in (List.mem_of_getElem? (i := 433) (by decide +kernel)) rfl
theorem wk_434 : Cond.instanceMethod ⟨"BoxedHeirs$Scene", "rustOf", "(I)I"⟩ ∈ TB := TB_in (List.mem_of_getElem? (i := 434) (by decide +kernel)) rfl
theorem wk_435 : Cond.selects "BoxedHeirs$Scene" ⟨"BoxedHeirs$Scene", "rustOf", "(I)I"⟩ ⟨"BoxedHeirs$Scene", "rustOf", "(I)I"⟩ ∈ TB := TB_in (List.mem_of_getElem? (i := 435) (by decide +kernel)) rfl
theorem wk_436 : Cond.code ⟨"BoxedHeirs$Scene", "rustOf", "(I)I"⟩ prog_9_method_6_code 2 (some .int) ∈ TB := TB_in (List.mem_of_getElem? (i := 436) (by decide +kernel)) rfl
theorem wk_437 : Cond.methodLink "BoxedHeirs$Scene" 38 ⟨"BoxedHeirs$Scene", "isDamp", "(I)Z"⟩ ∈ TB := TB_in (List.mem_of_getElem? (i := 437) (by decide +kernel)) rfl
theorem wk_438 : Cond.instanceMethod ⟨"BoxedHeirs$Scene", "isDamp", "(I)Z"⟩ ∈ TB := TB_in (List.mem_of_getElem? (i := 438) (by decide +kernel)) rfl
theorem wk_439 : Cond.selects "BoxedHeirs$Scene" ⟨"BoxedHeirs$Scene", "isDamp", "(I)Z"⟩ ⟨"BoxedHeirs$Scene", "isDamp", "(I)Z"⟩ ∈ TB := TB_in (List.mem_of_getElem? (i := 439) (by decide +kernel)) rfl
theorem wk_440 : Cond.code ⟨"BoxedHeirs$Scene", "isDamp", "(I)Z"⟩ prog_9_method_7_code 2 (some .boolean) ∈ TB := TB_in (List.mem_of_getElem? (i := 440) (by decide +kernel)) rfl
theorem wk_441 : Cond.methodLink "BoxedHeirs$Scene" 42 ⟨"BoxedHeirs$Realm", "forceOf", "(IIZ)I"⟩ ∈ TB := TB_in (List.mem_of_getElem? (i := 441) (by decide +kernel)) rfl
theorem wk_442 : Cond.instanceMethod ⟨"BoxedHeirs$Realm", "forceOf", "(IIZ)I"⟩ ∈ TB := TB_in (List.mem_of_getElem? (i := 442) (by decide +kernel)) rfl
theorem wk_443 : Cond.selects "BoxedHeirs$Realm" ⟨"BoxedHeirs$Realm", "forceOf", "(IIZ)I"⟩ ⟨"BoxedHeirs$Realm", "forceOf", "(IIZ)I"⟩ ∈ TB := TB_in (List.mem_of_getElem? (i := 443) (by decide +kernel)) rfl
theorem wk_444 : Cond.code ⟨"BoxedHeirs$Realm", "forceOf", "(IIZ)I"⟩ prog_8_method_11_code 5 (some .int) ∈ TB := TB_in (List.mem_of_getElem? (i := 444) (by decide +kernel)) rfl
theorem wk_445 : Cond.methodLink "BoxedHeirs$Realm" 46 ⟨"BoxedHeirs$Realm", "depthOf", "(I)I"⟩ ∈ TB := TB_in (List.mem_of_getElem? (i := 445) (by decide +kernel)) rfl
theorem wk_446 : Cond.instanceMethod ⟨"BoxedHeirs$Realm", "depthOf", "(I)I"⟩ ∈ TB := TB_in (List.mem_of_getElem? (i := 446) (by decide +kernel)) rfl
theorem wk_447 : Cond.selects "BoxedHeirs$Realm" ⟨"BoxedHeirs$Realm", "depthOf", "(I)I"⟩ ⟨"BoxedHeirs$Realm", "depthOf", "(I)I"⟩ ∈ TB := TB_in (List.mem_of_getElem? (i := 447) (by decide +kernel)) rfl
theorem wk_448 : Cond.code ⟨"BoxedHeirs$Realm", "depthOf", "(I)I"⟩ prog_8_method_9_code 4 (some .int) ∈ TB := TB_in (List.mem_of_getElem? (i := 448) (by decide +kernel)) rfl
theorem wk_449 : Cond.methodLink "BoxedHeirs$Realm" 50 ⟨"java/lang/Math", "max", "(II)I"⟩ ∈ TB := TB_in (List.mem_of_getElem? (i := 449) (by decide +kernel)) rfl
theorem wk_452 : Cond.methodLink "BoxedHeirs$Scene" 31 ⟨"BoxedHeirs$Scene", "isHeldAgainst", "(LBoxedHeirs$Realm;II)Z"⟩ ∈ TB := TB_in (List.mem_of_getElem? (i := 452) (by decide +kernel)) rfl
theorem wk_453 : Cond.instanceMethod ⟨"BoxedHeirs$Scene", "isHeldAgainst", "(LBoxedHeirs$Realm;II)Z"⟩ ∈ TB := TB_in (List.mem_of_getElem? (i := 453) (by decide +kernel)) rfl
theorem wk_454 : Cond.selects "BoxedHeirs$Scene" ⟨"BoxedHeirs$Scene", "isHeldAgainst", "(LBoxedHeirs$Realm;II)Z"⟩ ⟨"BoxedHeirs$Scene", "isHeldAgainst", "(LBoxedHeirs$Realm;II)Z"⟩ ∈ TB := TB_in (List.mem_of_getElem? (i := 454) (by decide +kernel)) rfl
theorem wk_455 : Cond.code ⟨"BoxedHeirs$Scene", "isHeldAgainst", "(LBoxedHeirs$Realm;II)Z"⟩ prog_9_method_20_code 5 (some .boolean) ∈ TB := TB_in (List.mem_of_getElem? (i := 455) (by decide +kernel)) rfl
theorem wk_456 : Cond.methodLink "BoxedHeirs$Scene" 67 ⟨"BoxedHeirs$Scene", "weightOn", "(LBoxedHeirs$Realm;I)I"⟩ ∈ TB := TB_in (List.mem_of_getElem? (i := 456) (by decide +kernel)) rfl
theorem wk_457 : Cond.instanceMethod ⟨"BoxedHeirs$Scene", "weightOn", "(LBoxedHeirs$Realm;I)I"⟩ ∈ TB := TB_in (List.mem_of_getElem? (i := 457) (by decide +kernel)) rfl
theorem wk_458 : Cond.selects "BoxedHeirs$Scene" ⟨"BoxedHeirs$Scene", "weightOn", "(LBoxedHeirs$Realm;I)I"⟩ ⟨"BoxedHeirs$Scene", "weightOn", "(LBoxedHeirs$Realm;I)I"⟩ ∈ TB := TB_in (List.mem_of_getElem? (i := 458) (by decide +kernel)) rfl
theorem wk_459 : Cond.code ⟨"BoxedHeirs$Scene", "weightOn", "(LBoxedHeirs$Realm;I)I"⟩ prog_9_method_19_code 5 (some .int) ∈ TB := TB_in (List.mem_of_getElem? (i := 459) (by decide +kernel)) rfl
theorem wk_460 : Cond.methodLink "BoxedHeirs" 130 ⟨"BoxedHeirs$Scene", "whoIsDamp", "()I"⟩ ∈ TB := TB_in (List.mem_of_getElem? (i := 460) (by decide +kernel)) rfl
theorem wk_461 : Cond.instanceMethod ⟨"BoxedHeirs$Scene", "whoIsDamp", "()I"⟩ ∈ TB := TB_in (List.mem_of_getElem? (i := 461) (by decide +kernel)) rfl
theorem wk_462 : Cond.selects "BoxedHeirs$Scene" ⟨"BoxedHeirs$Scene", "whoIsDamp", "()I"⟩ ⟨"BoxedHeirs$Scene", "whoIsDamp", "()I"⟩ ∈ TB := TB_in (List.mem_of_getElem? (i := 462) (by decide +kernel)) rfl
theorem wk_463 : Cond.code ⟨"BoxedHeirs$Scene", "whoIsDamp", "()I"⟩ prog_9_method_14_code 1 (some .int) ∈ TB := TB_in (List.mem_of_getElem? (i := 463) (by decide +kernel)) rfl
theorem wk_464 : Cond.methodLink "BoxedHeirs" 133 ⟨"BoxedHeirs$Scene", "nods", "()I"⟩ ∈ TB := TB_in (List.mem_of_getElem? (i := 464) (by decide +kernel)) rfl
theorem wk_465 : Cond.instanceMethod ⟨"BoxedHeirs$Scene", "nods", "()I"⟩ ∈ TB := TB_in (List.mem_of_getElem? (i := 465) (by decide +kernel)) rfl
theorem wk_466 : Cond.selects "BoxedHeirs$Scene" ⟨"BoxedHeirs$Scene", "nods", "()I"⟩ ⟨"BoxedHeirs$Scene", "nods", "()I"⟩ ∈ TB := TB_in (List.mem_of_getElem? (i := 466) (by decide +kernel)) rfl
theorem wk_467 : Cond.code ⟨"BoxedHeirs$Scene", "nods", "()I"⟩ prog_9_method_10_code 1 (some .int) ∈ TB := TB_in (List.mem_of_getElem? (i := 467) (by decide +kernel)) rfl
theorem wk_468 : Cond.methodLink "BoxedHeirs" 136 ⟨"BoxedHeirs$Scene", "thuds", "()I"⟩ ∈ TB := TB_in (List.mem_of_getElem? (i := 468) (by decide +kernel)) rfl
theorem wk_469 : Cond.instanceMethod ⟨"BoxedHeirs$Scene", "thuds", "()I"⟩ ∈ TB := TB_in (List.mem_of_getElem? (i := 469) (by decide +kernel)) rfl
theorem wk_470 : Cond.selects "BoxedHeirs$Scene" ⟨"BoxedHeirs$Scene", "thuds", "()I"⟩ ⟨"BoxedHeirs$Scene", "thuds", "()I"⟩ ∈ TB := TB_in (List.mem_of_getElem? (i := 470) (by decide +kernel)) rfl
theorem wk_471 : Cond.code ⟨"BoxedHeirs$Scene", "thuds", "()I"⟩ prog_9_method_11_code 1 (some .int) ∈ TB := TB_in (List.mem_of_getElem? (i := 471) (by decide +kernel)) rfl
theorem wk_472 : Cond.methodLink "BoxedHeirs" 142 ⟨"BoxedHeirs", "endOfAll", "(LBoxedHeirs$Realm;LBoxedHeirs$Scene;)I"⟩ ∈ TB := TB_in (List.mem_of_getElem? (i := 472) (by decide +kernel)) rfl
theorem wk_473 : Cond.static ⟨"BoxedHeirs", "endOfAll", "(LBoxedHeirs$Realm;LBoxedHeirs$Scene;)I"⟩ ∈ TB := TB_in (List.mem_of_getElem? (i := 473) (by decide +kernel)) rfl
theorem wk_474 : Cond.code ⟨"BoxedHeirs", "endOfAll", "(LBoxedHeirs$Realm;LBoxedHeirs$Scene;)I"⟩ prog_1_method_43_code 7 (some .int) ∈ TB := TB_in (List.mem_of_getElem? (i := 474) (by decide +kernel)) rfl
theorem wk_475 : Cond.methodLink "BoxedHeirs" 291 ⟨"java/lang/Math", "max", "(II)I"⟩ ∈ TB := TB_in (List.mem_of_getElem? (i := 475) (by decide +kernel)) rfl
theorem wk_476 : Cond.methodLink "BoxedHeirs" 164 ⟨"BoxedHeirs$Scene", "at", "(I)I"⟩ ∈ TB := TB_in (List.mem_of_getElem? (i := 476) (by decide +kernel)) rfl
theorem wk_477 : Cond.instanceMethod ⟨"BoxedHeirs$Scene", "at", "(I)I"⟩ ∈ TB := TB_in (List.mem_of_getElem? (i := 477) (by decide +kernel)) rfl
theorem wk_478 : Cond.selects "BoxedHeirs$Scene" ⟨"BoxedHeirs$Scene", "at", "(I)I"⟩ ⟨"BoxedHeirs$Scene", "at", "(I)I"⟩ ∈ TB := TB_in (List.mem_of_getElem? (i := 478) (by decide +kernel)) rfl
theorem wk_479 : Cond.code ⟨"BoxedHeirs$Scene", "at", "(I)I"⟩ prog_9_method_3_code 2 (some .int) ∈ TB := TB_in (List.mem_of_getElem? (i := 479) (by decide +kernel)) rfl
theorem wk_480 : Cond.methodLink "BoxedHeirs" 350 ⟨"BoxedHeirs", "leastCommonMultiple", "(II)I"⟩ ∈ TB := TB_in (List.mem_of_getElem? (i := 480) (by decide +kernel)) rfl
theorem wk_481 : Cond.static ⟨"BoxedHeirs", "leastCommonMultiple", "(II)I"⟩ ∈ TB := TB_in (List.mem_of_getElem? (i := 481) (by decide +kernel)) rfl
theorem wk_482 : Cond.code ⟨"BoxedHeirs", "leastCommonMultiple", "(II)I"⟩ prog_1_method_44_code 4 (some .int) ∈ TB := TB_in (List.mem_of_getElem? (i := 482) (by decide +kernel)) rfl
theorem wk_483 : Cond.methodLink "BoxedHeirs" 353 ⟨"java/lang/Math", "min", "(II)I"⟩ ∈ TB := TB_in (List.mem_of_getElem? (i := 483) (by decide +kernel)) rfl
theorem wk_490 : Cond.methodLink "BoxedHeirs" 146 ⟨"BoxedHeirs$Realm", "hasBox", "(I)Z"⟩ ∈ TB := TB_in (List.mem_of_getElem? (i := 490) (by decide +kernel)) rfl
theorem wk_491 : Cond.instanceMethod ⟨"BoxedHeirs$Realm", "hasBox", "(I)Z"⟩ ∈ TB := TB_in (List.mem_of_getElem? (i := 491) (by decide +kernel)) rfl
theorem wk_492 : Cond.selects "BoxedHeirs$Realm" ⟨"BoxedHeirs$Realm", "hasBox", "(I)Z"⟩ ⟨"BoxedHeirs$Realm", "hasBox", "(I)Z"⟩ ∈ TB := TB_in (List.mem_of_getElem? (i := 492) (by decide +kernel)) rfl
theorem wk_493 : Cond.code ⟨"BoxedHeirs$Realm", "hasBox", "(I)Z"⟩ prog_8_method_7_code 2 (some .boolean) ∈ TB := TB_in (List.mem_of_getElem? (i := 493) (by decide +kernel)) rfl
theorem wk_494 : Cond.constant "BoxedHeirs" 150 (-1000000001) ∈ TB := TB_in (List.mem_of_getElem? (i := 494) (by decide +kernel)) rfl
theorem wk_495 : Cond.methodLink "BoxedHeirs" 167 ⟨"BoxedHeirs$Scene", "isUp", "(I)Z"⟩ ∈ TB := TB_in (List.mem_of_getElem? (i := 495) (by decide +kernel)) rfl
theorem wk_496 : Cond.instanceMethod ⟨"BoxedHeirs$Scene", "isUp", "(I)Z"⟩ ∈ TB := TB_in (List.mem_of_getElem? (i := 496) (by decide +kernel)) rfl
theorem wk_497 : Cond.selects "BoxedHeirs$Scene" ⟨"BoxedHeirs$Scene", "isUp", "(I)Z"⟩ ⟨"BoxedHeirs$Scene", "isUp", "(I)Z"⟩ ∈ TB := TB_in (List.mem_of_getElem? (i := 497) (by decide +kernel)) rfl
theorem wk_498 : Cond.code ⟨"BoxedHeirs$Scene", "isUp", "(I)Z"⟩ prog_9_method_4_code 2 (some .boolean) ∈ TB := TB_in (List.mem_of_getElem? (i := 498) (by decide +kernel)) rfl
theorem wk_499 : Cond.methodLink "BoxedHeirs" 170 ⟨"BoxedHeirs$Scene", "swaysOf", "(I)I"⟩ ∈ TB := TB_in (List.mem_of_getElem? (i := 499) (by decide +kernel)) rfl
theorem wk_500 : Cond.instanceMethod ⟨"BoxedHeirs$Scene", "swaysOf", "(I)I"⟩ ∈ TB := TB_in (List.mem_of_getElem? (i := 500) (by decide +kernel)) rfl
theorem wk_501 : Cond.selects "BoxedHeirs$Scene" ⟨"BoxedHeirs$Scene", "swaysOf", "(I)I"⟩ ⟨"BoxedHeirs$Scene", "swaysOf", "(I)I"⟩ ∈ TB := TB_in (List.mem_of_getElem? (i := 501) (by decide +kernel)) rfl
theorem wk_502 : Cond.code ⟨"BoxedHeirs$Scene", "swaysOf", "(I)I"⟩ prog_9_method_5_code 2 (some .int) ∈ TB := TB_in (List.mem_of_getElem? (i := 502) (by decide +kernel)) rfl
theorem wk_503 : Cond.methodLink "BoxedHeirs" 173 ⟨"BoxedHeirs$Scene", "rustOf", "(I)I"⟩ ∈ TB := TB_in (List.mem_of_getElem? (i := 503) (by decide +kernel)) rfl
theorem wk_504 : Cond.methodLink "BoxedHeirs" 176 ⟨"BoxedHeirs$Scene", "forceOf", "(LBoxedHeirs$Realm;I)I"⟩ ∈ TB := TB_in (List.mem_of_getElem? (i := 504) (by decide +kernel)) rfl
theorem wk_505 : Cond.methodLink "BoxedHeirs" 183 ⟨"BoxedHeirs$Realm", "depthOf", "(I)I"⟩ ∈ TB := TB_in (List.mem_of_getElem? (i := 505) (by decide +kernel)) rfl
theorem wk_506 : Cond.methodLink "BoxedHeirs" 186 ⟨"BoxedHeirs$Realm", "dynastyOf", "(I)I"⟩ ∈ TB := TB_in (List.mem_of_getElem? (i := 506) (by decide +kernel)) rfl
theorem wk_507 : Cond.instanceMethod ⟨"BoxedHeirs$Realm", "dynastyOf", "(I)I"⟩ ∈ TB := TB_in (List.mem_of_getElem? (i := 507) (by decide +kernel)) rfl
theorem wk_508 : Cond.selects "BoxedHeirs$Realm" ⟨"BoxedHeirs$Realm", "dynastyOf", "(I)I"⟩ ⟨"BoxedHeirs$Realm", "dynastyOf", "(I)I"⟩ ∈ TB := TB_in (List.mem_of_getElem? (i := 508) (by decide +kernel)) rfl
theorem wk_509 : Cond.code ⟨"BoxedHeirs$Realm", "dynastyOf", "(I)I"⟩ prog_8_method_10_code 4 (some .int) ∈ TB := TB_in (List.mem_of_getElem? (i := 509) (by decide +kernel)) rfl
theorem wk_510 : Cond.methodLink "BoxedHeirs" 189 ⟨"BoxedHeirs$Scene", "weightOn", "(LBoxedHeirs$Realm;I)I"⟩ ∈ TB := TB_in (List.mem_of_getElem? (i := 510) (by decide +kernel)) rfl
theorem wk_515 : Cond.methodLink "BoxedHeirs" 192 ⟨"BoxedHeirs$Realm", "hasRegent", "(I)Z"⟩ ∈ TB := TB_in (List.mem_of_getElem? (i := 515) (by decide +kernel)) rfl
theorem wk_516 : Cond.instanceMethod ⟨"BoxedHeirs$Realm", "hasRegent", "(I)Z"⟩ ∈ TB := TB_in (List.mem_of_getElem? (i := 516) (by decide +kernel)) rfl
theorem wk_517 : Cond.selects "BoxedHeirs$Realm" ⟨"BoxedHeirs$Realm", "hasRegent", "(I)Z"⟩ ⟨"BoxedHeirs$Realm", "hasRegent", "(I)Z"⟩ ∈ TB := TB_in (List.mem_of_getElem? (i := 517) (by decide +kernel)) rfl
theorem wk_518 : Cond.code ⟨"BoxedHeirs$Realm", "hasRegent", "(I)Z"⟩ prog_8_method_8_code 2 (some .boolean) ∈ TB := TB_in (List.mem_of_getElem? (i := 518) (by decide +kernel)) rfl
theorem wk_519 : Cond.methodLink "BoxedHeirs" 198 ⟨"BoxedHeirs$Scene", "seatOf", "(I)I"⟩ ∈ TB := TB_in (List.mem_of_getElem? (i := 519) (by decide +kernel)) rfl
theorem wk_520 : Cond.instanceMethod ⟨"BoxedHeirs$Scene", "seatOf", "(I)I"⟩ ∈ TB := TB_in (List.mem_of_getElem? (i := 520) (by decide +kernel)) rfl
theorem wk_521 : Cond.selects "BoxedHeirs$Scene" ⟨"BoxedHeirs$Scene", "seatOf", "(I)I"⟩ ⟨"BoxedHeirs$Scene", "seatOf", "(I)I"⟩ ∈ TB := TB_in (List.mem_of_getElem? (i := 521) (by decide +kernel)) rfl
theorem wk_522 : Cond.code ⟨"BoxedHeirs$Scene", "seatOf", "(I)I"⟩ prog_9_method_8_code 2 (some .int) ∈ TB := TB_in (List.mem_of_getElem? (i := 522) (by decide +kernel)) rfl
theorem wk_527 : Cond.methodLink "BoxedHeirs" 201 ⟨"BoxedHeirs", "refusalOfBars", "(II)I"⟩ ∈ TB := TB_in (List.mem_of_getElem? (i := 527) (by decide +kernel)) rfl
theorem wk_529 : Cond.instanceMethod ⟨"BoxedHeirs", "refusalOfBars", "(II)I"⟩ ∈ TB := TB_in (List.mem_of_getElem? (i := 529) (by decide +kernel)) rfl
theorem wk_530 : Cond.code ⟨"BoxedHeirs", "refusalOfBars", "(II)I"⟩ prog_1_method_39_code 3 (some .int) ∈ TB := TB_in (List.mem_of_getElem? (i := 530) (by decide +kernel)) rfl
theorem wk_531 : Cond.methodLink "BoxedHeirs" 277 ⟨"BoxedHeirs$Realm", "exists", "()Z"⟩ ∈ TB := TB_in (List.mem_of_getElem? (i := 531) (by decide +kernel)) rfl
theorem wk_532 : Cond.constant "BoxedHeirs" 219 (-1000000003) ∈ TB := TB_in (List.mem_of_getElem? (i := 532) (by decide +kernel)) rfl
theorem wk_533 : Cond.constant "BoxedHeirs" 299 (99999) ∈ TB := TB_in (List.mem_of_getElem? (i := 533) (by decide +kernel)) rfl
theorem wk_534 : Cond.constant "BoxedHeirs" 340 (-1000000004) ∈ TB := TB_in (List.mem_of_getElem? (i := 534) (by decide +kernel)) rfl
theorem wk_535 : Cond.methodLink "BoxedHeirs" 205 ⟨"BoxedHeirs$Past", "remember", "(LBoxedHeirs$Scene;)V"⟩ ∈ TB := TB_in (List.mem_of_getElem? (i := 535) (by decide +kernel)) rfl
theorem wk_536 : Cond.instanceMethod ⟨"BoxedHeirs$Past", "remember", "(LBoxedHeirs$Scene;)V"⟩ ∈ TB := TB_in (List.mem_of_getElem? (i := 536) (by decide +kernel)) rfl
theorem wk_537 : Cond.selects "BoxedHeirs$Past" ⟨"BoxedHeirs$Past", "remember", "(LBoxedHeirs$Scene;)V"⟩ ⟨"BoxedHeirs$Past", "remember", "(LBoxedHeirs$Scene;)V"⟩ ∈ TB := TB_in (List.mem_of_getElem? (i := 537) (by decide +kernel)) rfl
theorem wk_538 : Cond.code ⟨"BoxedHeirs$Past", "remember", "(LBoxedHeirs$Scene;)V"⟩ prog_5_method_2_code 2 none ∈ TB := TB_in (List.mem_of_getElem? (i := 538) (by decide +kernel)) rfl
theorem wk_539 : Cond.methodLink "BoxedHeirs$Past" 22 ⟨"java/lang/System", "arraycopy", "(Ljava/lang/Object;ILjava/lang/Object;II)V"⟩ ∈ TB := TB_in (List.mem_of_getElem? (i := 539) (by decide +kernel)) rfl
theorem wk_540 : Cond.methodLink "BoxedHeirs$Past" 31 ⟨"java/lang/Math", "min", "(II)I"⟩ ∈ TB := TB_in (List.mem_of_getElem? (i := 540) (by decide +kernel)) rfl
theorem wk_541 : Cond.methodLink "BoxedHeirs" 209 ⟨"BoxedHeirs$Scene", "passBar", "(LBoxedHeirs$Realm;)V"⟩ ∈ TB := TB_in (List.mem_of_getElem? (i := 541) (by decide +kernel)) rfl
theorem wk_542 : Cond.instanceMethod ⟨"BoxedHeirs$Scene", "passBar", "(LBoxedHeirs$Realm;)V"⟩ ∈ TB := TB_in (List.mem_of_getElem? (i := 542) (by decide +kernel)) rfl
theorem wk_543 : Cond.selects "BoxedHeirs$Scene" ⟨"BoxedHeirs$Scene", "passBar", "(LBoxedHeirs$Realm;)V"⟩ ⟨"BoxedHeirs$Scene", "passBar", "(LBoxedHeirs$Realm;)V"⟩ ∈ TB := TB_in (List.mem_of_getElem? (i := 543) (by decide +kernel)) rfl
theorem wk_544 : Cond.code ⟨"BoxedHeirs$Scene", "passBar", "(LBoxedHeirs$Realm;)V"⟩ prog_9_method_23_code 4 none ∈ TB := TB_in (List.mem_of_getElem? (i := 544) (by decide +kernel)) rfl
theorem wk_545 : Cond.methodLink "BoxedHeirs$Scene" 87 ⟨"BoxedHeirs$Scene", "turnBox", "(LBoxedHeirs$Realm;I)Z"⟩ ∈ TB := TB_in (List.mem_of_getElem? (i := 545) (by decide +kernel)) rfl
theorem wk_546 : Cond.instanceMethod ⟨"BoxedHeirs$Scene", "turnBox", "(LBoxedHeirs$Realm;I)Z"⟩ ∈ TB := TB_in (List.mem_of_getElem? (i := 546) (by decide +kernel)) rfl
theorem wk_547 : Cond.selects "BoxedHeirs$Scene" ⟨"BoxedHeirs$Scene", "turnBox", "(LBoxedHeirs$Realm;I)Z"⟩ ⟨"BoxedHeirs$Scene", "turnBox", "(LBoxedHeirs$Realm;I)Z"⟩ ∈ TB := TB_in (List.mem_of_getElem? (i := 547) (by decide +kernel)) rfl
theorem wk_548 : Cond.code ⟨"BoxedHeirs$Scene", "turnBox", "(LBoxedHeirs$Realm;I)Z"⟩ prog_9_method_22_code 5 (some .boolean) ∈ TB := TB_in (List.mem_of_getElem? (i := 548) (by decide +kernel)) rfl
theorem wk_549 : Cond.methodLink "BoxedHeirs$Scene" 73 ⟨"BoxedHeirs$Scene", "isUp", "(I)Z"⟩ ∈ TB := TB_in (List.mem_of_getElem? (i := 549) (by decide +kernel)) rfl
theorem wk_550 : Cond.methodLink "BoxedHeirs$Scene" 48 ⟨"java/lang/Math", "max", "(II)I"⟩ ∈ TB := TB_in (List.mem_of_getElem? (i := 550) (by decide +kernel)) rfl
theorem wk_551 : Cond.methodLink "BoxedHeirs$Scene" 82 ⟨"BoxedHeirs$Scene", "isOuterUp", "(LBoxedHeirs$Realm;I)Z"⟩ ∈ TB := TB_in (List.mem_of_getElem? (i := 551) (by decide +kernel)) rfl
theorem wk_552 : Cond.instanceMethod ⟨"BoxedHeirs$Scene", "isOuterUp", "(LBoxedHeirs$Realm;I)Z"⟩ ∈ TB := TB_in (List.mem_of_getElem? (i := 552) (by decide +kernel)) rfl
theorem wk_553 : Cond.selects "BoxedHeirs$Scene" ⟨"BoxedHeirs$Scene", "isOuterUp", "(LBoxedHeirs$Realm;I)Z"⟩ ⟨"BoxedHeirs$Scene", "isOuterUp", "(LBoxedHeirs$Realm;I)Z"⟩ ∈ TB := TB_in (List.mem_of_getElem? (i := 553) (by decide +kernel)) rfl
theorem wk_554 : Cond.code ⟨"BoxedHeirs$Scene", "isOuterUp", "(LBoxedHeirs$Realm;I)Z"⟩ prog_9_method_21_code 4 (some .boolean) ∈ TB := TB_in (List.mem_of_getElem? (i := 554) (by decide +kernel)) rfl
theorem wk_555 : Cond.constant "BoxedHeirs$Scene" 86 (999999) ∈ TB := TB_in (List.mem_of_getElem? (i := 555) (by decide +kernel)) rfl
theorem wk_556 : Cond.methodLink "BoxedHeirs$Scene" 58 ⟨"java/lang/Math", "min", "(II)I"⟩ ∈ TB := TB_in (List.mem_of_getElem? (i := 556) (by decide +kernel)) rfl
theorem wk_557 : Cond.methodLink "BoxedHeirs$Scene" 90 ⟨"BoxedHeirs$Scene", "rustAll", "(LBoxedHeirs$Realm;)V"⟩ ∈ TB := TB_in (List.mem_of_getElem? (i := 557) (by decide +kernel)) rfl
theorem wk_558 : Cond.instanceMethod ⟨"BoxedHeirs$Scene", "rustAll", "(LBoxedHeirs$Realm;)V"⟩ ∈ TB := TB_in (List.mem_of_getElem? (i := 558) (by decide +kernel)) rfl
theorem wk_559 : Cond.selects "BoxedHeirs$Scene" ⟨"BoxedHeirs$Scene", "rustAll", "(LBoxedHeirs$Realm;)V"⟩ ⟨"BoxedHeirs$Scene", "rustAll", "(LBoxedHeirs$Realm;)V"⟩ ∈ TB := TB_in (List.mem_of_getElem? (i := 559) (by decide +kernel)) rfl
theorem wk_560 : Cond.code ⟨"BoxedHeirs$Scene", "rustAll", "(LBoxedHeirs$Realm;)V"⟩ prog_9_method_24_code 3 none ∈ TB := TB_in (List.mem_of_getElem? (i := 560) (by decide +kernel)) rfl
theorem wk_561 : Cond.methodLink "BoxedHeirs" 212 ⟨"BoxedHeirs$Scene", "howManyUp", "()I"⟩ ∈ TB := TB_in (List.mem_of_getElem? (i := 561) (by decide +kernel)) rfl
theorem wk_562 : Cond.instanceMethod ⟨"BoxedHeirs$Scene", "howManyUp", "()I"⟩ ∈ TB := TB_in (List.mem_of_getElem? (i := 562) (by decide +kernel)) rfl
theorem wk_563 : Cond.selects "BoxedHeirs$Scene" ⟨"BoxedHeirs$Scene", "howManyUp", "()I"⟩ ⟨"BoxedHeirs$Scene", "howManyUp", "()I"⟩ ∈ TB := TB_in (List.mem_of_getElem? (i := 563) (by decide +kernel)) rfl
theorem wk_564 : Cond.code ⟨"BoxedHeirs$Scene", "howManyUp", "()I"⟩ prog_9_method_13_code 1 (some .int) ∈ TB := TB_in (List.mem_of_getElem? (i := 564) (by decide +kernel)) rfl
theorem wk_565 : Cond.methodLink "BoxedHeirs$Scene" 15 ⟨"java/lang/Integer", "bitCount", "(I)I"⟩ ∈ TB := TB_in (List.mem_of_getElem? (i := 565) (by decide +kernel)) rfl
theorem wk_566 : Cond.static ⟨"java/lang/Integer", "bitCount", "(I)I"⟩ ∈ TB := TB_in (List.mem_of_getElem? (i := 566) (by decide +kernel)) rfl
theorem wk_567 : Cond.code ⟨"java/lang/Integer", "bitCount", "(I)I"⟩ prog_13_method_49_code 1 (some .int) ∈ TB := TB_in (List.mem_of_getElem? (i := 567) (by decide +kernel)) rfl
theorem wk_568 : Cond.constant "java/lang/Integer" 265 (1431655765) ∈ TB := TB_in (List.mem_of_getElem? (i := 568) (by decide +kernel)) rfl
theorem wk_569 : Cond.constant "java/lang/Integer" 266 (858993459) ∈ TB := TB_in (List.mem_of_getElem? (i := 569) (by decide +kernel)) rfl
theorem wk_570 : Cond.constant "java/lang/Integer" 267 (252645135) ∈ TB := TB_in (List.mem_of_getElem? (i := 570) (by decide +kernel)) rfl
theorem wk_575 : Cond.methodLink "BoxedHeirs" 215 ⟨"BoxedHeirs$Scene", "turnBox", "(LBoxedHeirs$Realm;I)Z"⟩ ∈ TB := TB_in (List.mem_of_getElem? (i := 575) (by decide +kernel)) rfl
theorem wk_580 : Cond.methodLink "BoxedHeirs" 220 ⟨"BoxedHeirs$Scene", "seatAt", "(II)V"⟩ ∈ TB := TB_in (List.mem_of_getElem? (i := 580) (by decide +kernel)) rfl
theorem wk_581 : Cond.instanceMethod ⟨"BoxedHeirs$Scene", "seatAt", "(II)V"⟩ ∈ TB := TB_in (List.mem_of_getElem? (i := 581) (by decide +kernel)) rfl
theorem wk_582 : Cond.selects "BoxedHeirs$Scene" ⟨"BoxedHeirs$Scene", "seatAt", "(II)V"⟩ ⟨"BoxedHeirs$Scene", "seatAt", "(II)V"⟩ ∈ TB := TB_in (List.mem_of_getElem? (i := 582) (by decide +kernel)) rfl
theorem wk_583 : Cond.code ⟨"BoxedHeirs$Scene", "seatAt", "(II)V"⟩ prog_9_method_26_code 3 none ∈ TB := TB_in (List.mem_of_getElem? (i := 583) (by decide +kernel)) rfl
theorem wk_592 : Cond.methodLink "BoxedHeirs" 224 ⟨"BoxedHeirs$Scene", "pushDown", "(LBoxedHeirs$Realm;I)I"⟩ ∈ TB := TB_in (List.mem_of_getElem? (i := 592) (by decide +kernel)) rfl
theorem wk_593 : Cond.instanceMethod ⟨"BoxedHeirs$Scene", "pushDown", "(LBoxedHeirs$Realm;I)I"⟩ ∈ TB := TB_in (List.mem_of_getElem? (i := 593) (by decide +kernel)) rfl
theorem wk_594 : Cond.selects "BoxedHeirs$Scene" ⟨"BoxedHeirs$Scene", "pushDown", "(LBoxedHeirs$Realm;I)I"⟩ ⟨"BoxedHeirs$Scene", "pushDown", "(LBoxedHeirs$Realm;I)I"⟩ ∈ TB := TB_in (List.mem_of_getElem? (i := 594) (by decide +kernel)) rfl
theorem wk_595 : Cond.code ⟨"BoxedHeirs$Scene", "pushDown", "(LBoxedHeirs$Realm;I)I"⟩ prog_9_method_25_code 5 (some .int) ∈ TB := TB_in (List.mem_of_getElem? (i := 595) (by decide +kernel)) rfl
theorem wk_596 : Cond.methodLink "BoxedHeirs$Scene" 94 ⟨"BoxedHeirs$Realm", "dynastyOf", "(I)I"⟩ ∈ TB := TB_in (List.mem_of_getElem? (i := 596) (by decide +kernel)) rfl
theorem wk_601 : Cond.methodLink "BoxedHeirs" 227 ⟨"BoxedHeirs$Scene", "takeRustOff", "(I)V"⟩ ∈ TB := TB_in (List.mem_of_getElem? (i := 601) (by decide +kernel)) rfl
theorem wk_602 : Cond.instanceMethod ⟨"BoxedHeirs$Scene", "takeRustOff", "(I)V"⟩ ∈ TB := TB_in (List.mem_of_getElem? (i := 602) (by decide +kernel)) rfl
theorem wk_603 : Cond.selects "BoxedHeirs$Scene" ⟨"BoxedHeirs$Scene", "takeRustOff", "(I)V"⟩ ⟨"BoxedHeirs$Scene", "takeRustOff", "(I)V"⟩ ∈ TB := TB_in (List.mem_of_getElem? (i := 603) (by decide +kernel)) rfl
theorem wk_604 : Cond.code ⟨"BoxedHeirs$Scene", "takeRustOff", "(I)V"⟩ prog_9_method_27_code 2 none ∈ TB := TB_in (List.mem_of_getElem? (i := 604) (by decide +kernel)) rfl
theorem wk_609 : Cond.methodLink "BoxedHeirs" 231 ⟨"BoxedHeirs$Scene", "isDamp", "(I)Z"⟩ ∈ TB := TB_in (List.mem_of_getElem? (i := 609) (by decide +kernel)) rfl
theorem wk_610 : Cond.methodLink "BoxedHeirs" 234 ⟨"BoxedHeirs$Scene", "makeDamp", "(IZ)V"⟩ ∈ TB := TB_in (List.mem_of_getElem? (i := 610) (by decide +kernel)) rfl
theorem wk_611 : Cond.instanceMethod ⟨"BoxedHeirs$Scene", "makeDamp", "(IZ)V"⟩ ∈ TB := TB_in (List.mem_of_getElem? (i := 611) (by decide +kernel)) rfl
theorem wk_612 : Cond.selects "BoxedHeirs$Scene" ⟨"BoxedHeirs$Scene", "makeDamp", "(IZ)V"⟩ ⟨"BoxedHeirs$Scene", "makeDamp", "(IZ)V"⟩ ∈ TB := TB_in (List.mem_of_getElem? (i := 612) (by decide +kernel)) rfl
theorem wk_613 : Cond.code ⟨"BoxedHeirs$Scene", "makeDamp", "(IZ)V"⟩ prog_9_method_28_code 3 none ∈ TB := TB_in (List.mem_of_getElem? (i := 613) (by decide +kernel)) rfl
theorem wk_618 : Cond.methodLink "BoxedHeirs" 238 ⟨"BoxedHeirs", "meddle", "()V"⟩ ∈ TB := TB_in (List.mem_of_getElem? (i := 618) (by decide +kernel)) rfl
theorem wk_620 : Cond.instanceMethod ⟨"BoxedHeirs", "meddle", "()V"⟩ ∈ TB := TB_in (List.mem_of_getElem? (i := 620) (by decide +kernel)) rfl
theorem wk_621 : Cond.code ⟨"BoxedHeirs", "meddle", "()V"⟩ prog_1_method_41_code 2 none ∈ TB := TB_in (List.mem_of_getElem? (i := 621) (by decide +kernel)) rfl
theorem wk_622 : Cond.methodLink "BoxedHeirs" 344 ⟨"BoxedHeirs", "drawOf", "(I)I"⟩ ∈ TB := TB_in (List.mem_of_getElem? (i := 622) (by decide +kernel)) rfl
theorem wk_624 : Cond.instanceMethod ⟨"BoxedHeirs", "drawOf", "(I)I"⟩ ∈ TB := TB_in (List.mem_of_getElem? (i := 624) (by decide +kernel)) rfl
theorem wk_625 : Cond.code ⟨"BoxedHeirs", "drawOf", "(I)I"⟩ prog_1_method_40_code 2 (some .int) ∈ TB := TB_in (List.mem_of_getElem? (i := 625) (by decide +kernel)) rfl
theorem wk_626 : Cond.constant "BoxedHeirs" 341 (1103515245) ∈ TB := TB_in (List.mem_of_getElem? (i := 626) (by decide +kernel)) rfl
theorem wk_627 : Cond.constant "BoxedHeirs" 342 (2147483647) ∈ TB := TB_in (List.mem_of_getElem? (i := 627) (by decide +kernel)) rfl
theorem wk_628 : Cond.constant "BoxedHeirs" 343 (65536) ∈ TB := TB_in (List.mem_of_getElem? (i := 628) (by decide +kernel)) rfl
theorem wk_629 : Cond.methodLink "BoxedHeirs" 347 ⟨"BoxedHeirs$Scene", "turnDampness", "(I)V"⟩ ∈ TB := TB_in (List.mem_of_getElem? (i := 629) (by decide +kernel)) rfl
theorem wk_630 : Cond.instanceMethod ⟨"BoxedHeirs$Scene", "turnDampness", "(I)V"⟩ ∈ TB := TB_in (List.mem_of_getElem? (i := 630) (by decide +kernel)) rfl
theorem wk_631 : Cond.selects "BoxedHeirs$Scene" ⟨"BoxedHeirs$Scene", "turnDampness", "(I)V"⟩ ⟨"BoxedHeirs$Scene", "turnDampness", "(I)V"⟩ ∈ TB := TB_in (List.mem_of_getElem? (i := 631) (by decide +kernel)) rfl
theorem wk_632 : Cond.code ⟨"BoxedHeirs$Scene", "turnDampness", "(I)V"⟩ prog_9_method_29_code 2 none ∈ TB := TB_in (List.mem_of_getElem? (i := 632) (by decide +kernel)) rfl
theorem wk_637 : Cond.methodLink "BoxedHeirs" 241 ⟨"BoxedHeirs$Past", "recall", "(LBoxedHeirs$Scene;)V"⟩ ∈ TB := TB_in (List.mem_of_getElem? (i := 637) (by decide +kernel)) rfl
theorem wk_638 : Cond.instanceMethod ⟨"BoxedHeirs$Past", "recall", "(LBoxedHeirs$Scene;)V"⟩ ∈ TB := TB_in (List.mem_of_getElem? (i := 638) (by decide +kernel)) rfl
theorem wk_639 : Cond.selects "BoxedHeirs$Past" ⟨"BoxedHeirs$Past", "recall", "(LBoxedHeirs$Scene;)V"⟩ ⟨"BoxedHeirs$Past", "recall", "(LBoxedHeirs$Scene;)V"⟩ ∈ TB := TB_in (List.mem_of_getElem? (i := 639) (by decide +kernel)) rfl
theorem wk_640 : Cond.code ⟨"BoxedHeirs$Past", "recall", "(LBoxedHeirs$Scene;)V"⟩ prog_5_method_3_code 2 none ∈ TB := TB_in (List.mem_of_getElem? (i := 640) (by decide +kernel)) rfl
theorem wk_645 : Cond.methodLink "BoxedHeirs" 244 ⟨"BoxedHeirs$Forecast", "fill", "(LBoxedHeirs$Realm;LBoxedHeirs$Scene;)V"⟩ ∈ TB := TB_in (List.mem_of_getElem? (i := 645) (by decide +kernel)) rfl
theorem wk_646 : Cond.instanceMethod ⟨"BoxedHeirs$Forecast", "fill", "(LBoxedHeirs$Realm;LBoxedHeirs$Scene;)V"⟩ ∈ TB := TB_in (List.mem_of_getElem? (i := 646) (by decide +kernel)) rfl
theorem wk_647 : Cond.selects "BoxedHeirs$Forecast" ⟨"BoxedHeirs$Forecast", "fill", "(LBoxedHeirs$Realm;LBoxedHeirs$Scene;)V"⟩ ⟨"BoxedHeirs$Forecast", "fill", "(LBoxedHeirs$Realm;LBoxedHeirs$Scene;)V"⟩ ∈ TB := TB_in (List.mem_of_getElem? (i := 647) (by decide +kernel)) rfl
theorem wk_648 : Cond.code ⟨"BoxedHeirs$Forecast", "fill", "(LBoxedHeirs$Realm;LBoxedHeirs$Scene;)V"⟩ prog_3_method_2_code 4 none ∈ TB := TB_in (List.mem_of_getElem? (i := 648) (by decide +kernel)) rfl
theorem wk_649 : Cond.methodLink "BoxedHeirs$Forecast" 21 ⟨"BoxedHeirs$Forecast", "firstUp", "(LBoxedHeirs$Realm;LBoxedHeirs$Scene;I)I"⟩ ∈ TB := TB_in (List.mem_of_getElem? (i := 649) (by decide +kernel)) rfl
theorem wk_650 : Cond.instanceMethod ⟨"BoxedHeirs$Forecast", "firstUp", "(LBoxedHeirs$Realm;LBoxedHeirs$Scene;I)I"⟩ ∈ TB := TB_in (List.mem_of_getElem? (i := 650) (by decide +kernel)) rfl
theorem wk_651 : Cond.selects "BoxedHeirs$Forecast" ⟨"BoxedHeirs$Forecast", "firstUp", "(LBoxedHeirs$Realm;LBoxedHeirs$Scene;I)I"⟩ ⟨"BoxedHeirs$Forecast", "firstUp", "(LBoxedHeirs$Realm;LBoxedHeirs$Scene;I)I"⟩ ∈ TB := TB_in (List.mem_of_getElem? (i := 651) (by decide +kernel)) rfl
theorem wk_652 : Cond.code ⟨"BoxedHeirs$Forecast", "firstUp", "(LBoxedHeirs$Realm;LBoxedHeirs$Scene;I)I"⟩ prog_3_method_3_code 9 (some .int) ∈ TB := TB_in (List.mem_of_getElem? (i := 652) (by decide +kernel)) rfl
theorem wk_653 : Cond.methodLink "BoxedHeirs$Forecast" 25 ⟨"BoxedHeirs$Scene", "isUp", "(I)Z"⟩ ∈ TB := TB_in (List.mem_of_getElem? (i := 653) (by decide +kernel)) rfl
theorem wk_654 : Cond.methodLink "BoxedHeirs$Forecast" 34 ⟨"java/lang/Math", "max", "(II)I"⟩ ∈ TB := TB_in (List.mem_of_getElem? (i := 654) (by decide +kernel)) rfl
theorem wk_655 : Cond.methodLink "BoxedHeirs$Forecast" 40 ⟨"BoxedHeirs$Scene", "at", "(I)I"⟩ ∈ TB := TB_in (List.mem_of_getElem? (i := 655) (by decide +kernel)) rfl
theorem wk_656 : Cond.methodLink "BoxedHeirs$Forecast" 44 ⟨"BoxedHeirs$Realm", "nextCatch", "(II)I"⟩ ∈ TB := TB_in (List.mem_of_getElem? (i := 656) (by decide +kernel)) rfl
theorem wk_657 : Cond.instanceMethod ⟨"BoxedHeirs$Realm", "nextCatch", "(II)I"⟩ ∈ TB := TB_in (List.mem_of_getElem? (i := 657) (by decide +kernel)) rfl
theorem wk_658 : Cond.selects "BoxedHeirs$Realm" ⟨"BoxedHeirs$Realm", "nextCatch", "(II)I"⟩ ⟨"BoxedHeirs$Realm", "nextCatch", "(II)I"⟩ ∈ TB := TB_in (List.mem_of_getElem? (i := 658) (by decide +kernel)) rfl
theorem wk_659 : Cond.code ⟨"BoxedHeirs$Realm", "nextCatch", "(II)I"⟩ prog_8_method_13_code 5 (some .int) ∈ TB := TB_in (List.mem_of_getElem? (i := 659) (by decide +kernel)) rfl
theorem wk_660 : Cond.methodLink "BoxedHeirs$Forecast" 47 ⟨"BoxedHeirs$Scene", "rustBehind", "(LBoxedHeirs$Realm;II)I"⟩ ∈ TB := TB_in (List.mem_of_getElem? (i := 660) (by decide +kernel)) rfl
theorem wk_661 : Cond.instanceMethod ⟨"BoxedHeirs$Scene", "rustBehind", "(LBoxedHeirs$Realm;II)I"⟩ ∈ TB := TB_in (List.mem_of_getElem? (i := 661) (by decide +kernel)) rfl
theorem wk_662 : Cond.selects "BoxedHeirs$Scene" ⟨"BoxedHeirs$Scene", "rustBehind", "(LBoxedHeirs$Realm;II)I"⟩ ⟨"BoxedHeirs$Scene", "rustBehind", "(LBoxedHeirs$Realm;II)I"⟩ ∈ TB := TB_in (List.mem_of_getElem? (i := 662) (by decide +kernel)) rfl
theorem wk_663 : Cond.code ⟨"BoxedHeirs$Scene", "rustBehind", "(LBoxedHeirs$Realm;II)I"⟩ prog_9_method_18_code 6 (some .int) ∈ TB := TB_in (List.mem_of_getElem? (i := 663) (by decide +kernel)) rfl
theorem wk_664 : Cond.methodLink "BoxedHeirs$Scene" 54 ⟨"BoxedHeirs$Scene", "bars", "()I"⟩ ∈ TB := TB_in (List.mem_of_getElem? (i := 664) (by decide +kernel)) rfl
theorem wk_665 : Cond.methodLink "BoxedHeirs$Forecast" 51 ⟨"BoxedHeirs$Scene", "isDamp", "(I)Z"⟩ ∈ TB := TB_in (List.mem_of_getElem? (i := 665) (by decide +kernel)) rfl
theorem wk_666 : Cond.methodLink "BoxedHeirs$Forecast" 54 ⟨"BoxedHeirs$Realm", "forceOf", "(IIZ)I"⟩ ∈ TB := TB_in (List.mem_of_getElem? (i := 666) (by decide +kernel)) rfl
theorem wk_667 : Cond.methodLink "BoxedHeirs$Forecast" 58 ⟨"BoxedHeirs$Scene", "isHeldAgainst", "(LBoxedHeirs$Realm;II)Z"⟩ ∈ TB := TB_in (List.mem_of_getElem? (i := 667) (by decide +kernel)) rfl
theorem wk_672 : Cond.methodLink "BoxedHeirs" 251 ⟨"BoxedHeirs$Forecast", "inOrder", "(II)I"⟩ ∈ TB := TB_in (List.mem_of_getElem? (i := 672) (by decide +kernel)) rfl
theorem wk_673 : Cond.instanceMethod ⟨"BoxedHeirs$Forecast", "inOrder", "(II)I"⟩ ∈ TB := TB_in (List.mem_of_getElem? (i := 673) (by decide +kernel)) rfl
theorem wk_674 : Cond.selects "BoxedHeirs$Forecast" ⟨"BoxedHeirs$Forecast", "inOrder", "(II)I"⟩ ⟨"BoxedHeirs$Forecast", "inOrder", "(II)I"⟩ ∈ TB := TB_in (List.mem_of_getElem? (i := 674) (by decide +kernel)) rfl
theorem wk_675 : Cond.code ⟨"BoxedHeirs$Forecast", "inOrder", "(II)I"⟩ prog_3_method_4_code 7 (some .int) ∈ TB := TB_in (List.mem_of_getElem? (i := 675) (by decide +kernel)) rfl
theorem wk_676 : Cond.methodLink "BoxedHeirs$Forecast" 62 ⟨"BoxedHeirs$Forecast", "firstOfTheRest", "(III)I"⟩ ∈ TB := TB_in (List.mem_of_getElem? (i := 676) (by decide +kernel)) rfl
theorem wk_677 : Cond.instanceMethod ⟨"BoxedHeirs$Forecast", "firstOfTheRest", "(III)I"⟩ ∈ TB := TB_in (List.mem_of_getElem? (i := 677) (by decide +kernel)) rfl
theorem wk_678 : Cond.selects "BoxedHeirs$Forecast" ⟨"BoxedHeirs$Forecast", "firstOfTheRest", "(III)I"⟩ ⟨"BoxedHeirs$Forecast", "firstOfTheRest", "(III)I"⟩ ∈ TB := TB_in (List.mem_of_getElem? (i := 678) (by decide +kernel)) rfl
theorem wk_679 : Cond.code ⟨"BoxedHeirs$Forecast", "firstOfTheRest", "(III)I"⟩ prog_3_method_5_code 7 (some .int) ∈ TB := TB_in (List.mem_of_getElem? (i := 679) (by decide +kernel)) rfl
theorem wk_684 : Cond.methodLink "BoxedHeirs" 254 ⟨"BoxedHeirs", "isPairOfBoxes", "(II)Z"⟩ ∈ TB := TB_in (List.mem_of_getElem? (i := 684) (by decide +kernel)) rfl
theorem wk_686 : Cond.instanceMethod ⟨"BoxedHeirs", "isPairOfBoxes", "(II)Z"⟩ ∈ TB := TB_in (List.mem_of_getElem? (i := 686) (by decide +kernel)) rfl
theorem wk_687 : Cond.code ⟨"BoxedHeirs", "isPairOfBoxes", "(II)Z"⟩ prog_1_method_38_code 3 (some .boolean) ∈ TB := TB_in (List.mem_of_getElem? (i := 687) (by decide +kernel)) rfl
theorem wk_688 : Cond.methodLink "BoxedHeirs" 258 ⟨"BoxedHeirs$Realm", "nextCatch", "(II)I"⟩ ∈ TB := TB_in (List.mem_of_getElem? (i := 688) (by decide +kernel)) rfl
theorem wk_689 : Cond.methodLink "BoxedHeirs" 261 ⟨"BoxedHeirs$Realm", "isAtCatch", "(II)Z"⟩ ∈ TB := TB_in (List.mem_of_getElem? (i := 689) (by decide +kernel)) rfl
theorem wk_690 : Cond.instanceMethod ⟨"BoxedHeirs$Realm", "isAtCatch", "(II)Z"⟩ ∈ TB := TB_in (List.mem_of_getElem? (i := 690) (by decide +kernel)) rfl
theorem wk_691 : Cond.selects "BoxedHeirs$Realm" ⟨"BoxedHeirs$Realm", "isAtCatch", "(II)Z"⟩ ⟨"BoxedHeirs$Realm", "isAtCatch", "(II)Z"⟩ ∈ TB := TB_in (List.mem_of_getElem? (i := 691) (by decide +kernel)) rfl
theorem wk_692 : Cond.code ⟨"BoxedHeirs$Realm", "isAtCatch", "(II)Z"⟩ prog_8_method_12_code 3 (some .boolean) ∈ TB := TB_in (List.mem_of_getElem? (i := 692) (by decide +kernel)) rfl
theorem wk_701 : Cond.methodLink "BoxedHeirs" 264 ⟨"java/lang/Integer", "bitCount", "(I)I"⟩ ∈ TB := TB_in (List.mem_of_getElem? (i := 701) (by decide +kernel)) rfl
theorem wk_702 : Cond.methodLink "BoxedHeirs" 269 ⟨"BoxedHeirs", "markCatches", "(II)V"⟩ ∈ TB := TB_in (List.mem_of_getElem? (i := 702) (by decide +kernel)) rfl
theorem wk_704 : Cond.instanceMethod ⟨"BoxedHeirs", "markCatches", "(II)V"⟩ ∈ TB := TB_in (List.mem_of_getElem? (i := 704) (by decide +kernel)) rfl
theorem wk_705 : Cond.code ⟨"BoxedHeirs", "markCatches", "(II)V"⟩ prog_1_method_45_code 6 none ∈ TB := TB_in (List.mem_of_getElem? (i := 705) (by decide +kernel)) rfl
theorem wk_706 : Cond.methodLink "BoxedHeirs" 356 ⟨"BoxedHeirs$Realm", "catchesWithin", "(III)J"⟩ ∈ TB := TB_in (List.mem_of_getElem? (i := 706) (by decide +kernel)) rfl
theorem wk_707 : Cond.instanceMethod ⟨"BoxedHeirs$Realm", "catchesWithin", "(III)J"⟩ ∈ TB := TB_in (List.mem_of_getElem? (i := 707) (by decide +kernel)) rfl
theorem wk_708 : Cond.selects "BoxedHeirs$Realm" ⟨"BoxedHeirs$Realm", "catchesWithin", "(III)J"⟩ ⟨"BoxedHeirs$Realm", "catchesWithin", "(III)J"⟩ ∈ TB := TB_in (List.mem_of_getElem? (i := 708) (by decide +kernel)) rfl
theorem wk_709 : Cond.code ⟨"BoxedHeirs$Realm", "catchesWithin", "(III)J"⟩ prog_8_method_14_code 8 (some .long) ∈ TB := TB_in (List.mem_of_getElem? (i := 709) (by decide +kernel)) rfl
theorem wk_710 : Cond.methodLink "BoxedHeirs$Realm" 56 ⟨"BoxedHeirs$Realm", "nextCatch", "(II)I"⟩ ∈ TB := TB_in (List.mem_of_getElem? (i := 710) (by decide +kernel)) rfl
theorem wk_711 : Cond.constant "BoxedHeirs" 272 (10000000) ∈ TB := TB_in (List.mem_of_getElem? (i := 711) (by decide +kernel)) rfl
theorem wk_712 : Cond.methodLink "BoxedHeirs" 273 ⟨"BoxedHeirs", "leastParting", "([JIJII)I"⟩ ∈ TB := TB_in (List.mem_of_getElem? (i := 712) (by decide +kernel)) rfl
theorem wk_713 : Cond.static ⟨"BoxedHeirs", "leastParting", "([JIJII)I"⟩ ∈ TB := TB_in (List.mem_of_getElem? (i := 713) (by decide +kernel)) rfl
theorem wk_714 : Cond.code ⟨"BoxedHeirs", "leastParting", "([JIJII)I"⟩ prog_1_method_46_code 12 (some .int) ∈ TB := TB_in (List.mem_of_getElem? (i := 714) (by decide +kernel)) rfl
theorem wk_715 : Cond.fieldLink "BoxedHeirs" 360 "BoxedHeirs" "FIGURE_PLACES" "[I" ∈ TB := TB_in (List.mem_of_getElem? (i := 715) (by decide +kernel)) rfl
theorem wk_721 : Cond.methodLink "BoxedHeirs" 281 ⟨"BoxedHeirs", "isAnyAtCatch", "(I)Z"⟩ ∈ TB := TB_in (List.mem_of_getElem? (i := 721) (by decide +kernel)) rfl
theorem wk_723 : Cond.instanceMethod ⟨"BoxedHeirs", "isAnyAtCatch", "(I)Z"⟩ ∈ TB := TB_in (List.mem_of_getElem? (i := 723) (by decide +kernel)) rfl
theorem wk_724 : Cond.code ⟨"BoxedHeirs", "isAnyAtCatch", "(I)Z"⟩ prog_1_method_42_code 3 (some .boolean) ∈ TB := TB_in (List.mem_of_getElem? (i := 724) (by decide +kernel)) rfl
theorem wk_729 : Cond.methodLink "BoxedHeirs" 284 ⟨"BoxedHeirs$Posting", "fill", "(LBoxedHeirs$Realm;LBoxedHeirs$Scene;)V"⟩ ∈ TB := TB_in (List.mem_of_getElem? (i := 729) (by decide +kernel)) rfl
theorem wk_730 : Cond.instanceMethod ⟨"BoxedHeirs$Posting", "fill", "(LBoxedHeirs$Realm;LBoxedHeirs$Scene;)V"⟩ ∈ TB := TB_in (List.mem_of_getElem? (i := 730) (by decide +kernel)) rfl
theorem wk_731 : Cond.selects "BoxedHeirs$Posting" ⟨"BoxedHeirs$Posting", "fill", "(LBoxedHeirs$Realm;LBoxedHeirs$Scene;)V"⟩ ⟨"BoxedHeirs$Posting", "fill", "(LBoxedHeirs$Realm;LBoxedHeirs$Scene;)V"⟩ ∈ TB := TB_in (List.mem_of_getElem? (i := 731) (by decide +kernel)) rfl
theorem wk_732 : Cond.code ⟨"BoxedHeirs$Posting", "fill", "(LBoxedHeirs$Realm;LBoxedHeirs$Scene;)V"⟩ prog_6_method_3_code 7 none ∈ TB := TB_in (List.mem_of_getElem? (i := 732) (by decide +kernel)) rfl
theorem wk_733 : Cond.methodLink "BoxedHeirs$Posting" 27 ⟨"BoxedHeirs$Scene", "forceOf", "(LBoxedHeirs$Realm;I)I"⟩ ∈ TB := TB_in (List.mem_of_getElem? (i := 733) (by decide +kernel)) rfl
theorem wk_734 : Cond.methodLink "BoxedHeirs$Posting" 33 ⟨"BoxedHeirs$Posting", "mostFrom", "(LBoxedHeirs$Realm;III)I"⟩ ∈ TB := TB_in (List.mem_of_getElem? (i := 734) (by decide +kernel)) rfl
theorem wk_735 : Cond.instanceMethod ⟨"BoxedHeirs$Posting", "mostFrom", "(LBoxedHeirs$Realm;III)I"⟩ ∈ TB := TB_in (List.mem_of_getElem? (i := 735) (by decide +kernel)) rfl
theorem wk_736 : Cond.selects "BoxedHeirs$Posting" ⟨"BoxedHeirs$Posting", "mostFrom", "(LBoxedHeirs$Realm;III)I"⟩ ⟨"BoxedHeirs$Posting", "mostFrom", "(LBoxedHeirs$Realm;III)I"⟩ ∈ TB := TB_in (List.mem_of_getElem? (i := 736) (by decide +kernel)) rfl
theorem wk_737 : Cond.code ⟨"BoxedHeirs$Posting", "mostFrom", "(LBoxedHeirs$Realm;III)I"⟩ prog_6_method_5_code 8 (some .int) ∈ TB := TB_in (List.mem_of_getElem? (i := 737) (by decide +kernel)) rfl
theorem wk_738 : Cond.methodLink "BoxedHeirs$Posting" 43 ⟨"BoxedHeirs$Posting", "mayHold", "(LBoxedHeirs$Realm;III)Z"⟩ ∈ TB := TB_in (List.mem_of_getElem? (i := 738) (by decide +kernel)) rfl
theorem wk_739 : Cond.instanceMethod ⟨"BoxedHeirs$Posting", "mayHold", "(LBoxedHeirs$Realm;III)Z"⟩ ∈ TB := TB_in (List.mem_of_getElem? (i := 739) (by decide +kernel)) rfl
theorem wk_740 : Cond.selects "BoxedHeirs$Posting" ⟨"BoxedHeirs$Posting", "mayHold", "(LBoxedHeirs$Realm;III)Z"⟩ ⟨"BoxedHeirs$Posting", "mayHold", "(LBoxedHeirs$Realm;III)Z"⟩ ∈ TB := TB_in (List.mem_of_getElem? (i := 740) (by decide +kernel)) rfl
theorem wk_741 : Cond.code ⟨"BoxedHeirs$Posting", "mayHold", "(LBoxedHeirs$Realm;III)Z"⟩ prog_6_method_4_code 5 (some .boolean) ∈ TB := TB_in (List.mem_of_getElem? (i := 741) (by decide +kernel)) rfl
theorem wk_742 : Cond.methodLink "BoxedHeirs$Posting" 47 ⟨"java/lang/Math", "max", "(II)I"⟩ ∈ TB := TB_in (List.mem_of_getElem? (i := 742) (by decide +kernel)) rfl
theorem wk_743 : Cond.methodLink "BoxedHeirs$Posting" 37 ⟨"BoxedHeirs$Posting", "firstHolder", "(LBoxedHeirs$Realm;III)I"⟩ ∈ TB := TB_in (List.mem_of_getElem? (i := 743) (by decide +kernel)) rfl
theorem wk_744 : Cond.instanceMethod ⟨"BoxedHeirs$Posting", "firstHolder", "(LBoxedHeirs$Realm;III)I"⟩ ∈ TB := TB_in (List.mem_of_getElem? (i := 744) (by decide +kernel)) rfl
theorem wk_745 : Cond.selects "BoxedHeirs$Posting" ⟨"BoxedHeirs$Posting", "firstHolder", "(LBoxedHeirs$Realm;III)I"⟩ ⟨"BoxedHeirs$Posting", "firstHolder", "(LBoxedHeirs$Realm;III)I"⟩ ∈ TB := TB_in (List.mem_of_getElem? (i := 745) (by decide +kernel)) rfl
theorem wk_746 : Cond.code ⟨"BoxedHeirs$Posting", "firstHolder", "(LBoxedHeirs$Realm;III)I"⟩ prog_6_method_6_code 7 (some .int) ∈ TB := TB_in (List.mem_of_getElem? (i := 746) (by decide +kernel)) rfl
theorem wk_747 : Cond.methodLink "BoxedHeirs" 285 ⟨"BoxedHeirs$Posting", "howMany", "()I"⟩ ∈ TB := TB_in (List.mem_of_getElem? (i := 747) (by decide +kernel)) rfl
theorem wk_748 : Cond.instanceMethod ⟨"BoxedHeirs$Posting", "howMany", "()I"⟩ ∈ TB := TB_in (List.mem_of_getElem? (i := 748) (by decide +kernel)) rfl
theorem wk_749 : Cond.selects "BoxedHeirs$Posting" ⟨"BoxedHeirs$Posting", "howMany", "()I"⟩ ⟨"BoxedHeirs$Posting", "howMany", "()I"⟩ ∈ TB := TB_in (List.mem_of_getElem? (i := 749) (by decide +kernel)) rfl
theorem wk_750 : Cond.code ⟨"BoxedHeirs$Posting", "howMany", "()I"⟩ prog_6_method_2_code 1 (some .int) ∈ TB := TB_in (List.mem_of_getElem? (i := 750) (by decide +kernel)) rfl
theorem wk_755 : Cond.methodLink "BoxedHeirs" 296 ⟨"BoxedHeirs$Realm", "forceOf", "(IIZ)I"⟩ ∈ TB := TB_in (List.mem_of_getElem? (i := 755) (by decide +kernel)) rfl
theorem wk_764 : Cond.constantLong "BoxedHeirs" 300 (1000000000) ∈ TB := TB_in (List.mem_of_getElem? (i := 764) (by decide +kernel)) rfl
theorem wk_765 : Cond.constantLong "BoxedHeirs" 302 (100) ∈ TB := TB_in (List.mem_of_getElem? (i := 765) (by decide +kernel)) rfl
theorem wk_770 : Cond.methodLink "BoxedHeirs" 304 ⟨"BoxedHeirs$Sightings", "add", "(IZ)I"⟩ ∈ TB := TB_in (List.mem_of_getElem? (i := 770) (by decide +kernel)) rfl
theorem wk_771 : Cond.instanceMethod ⟨"BoxedHeirs$Sightings", "add", "(IZ)I"⟩ ∈ TB := TB_in (List.mem_of_getElem? (i := 771) (by decide +kernel)) rfl
theorem wk_772 : Cond.selects "BoxedHeirs$Sightings" ⟨"BoxedHeirs$Sightings", "add", "(IZ)I"⟩ ⟨"BoxedHeirs$Sightings", "add", "(IZ)I"⟩ ∈ TB := TB_in (List.mem_of_getElem? (i := 772) (by decide +kernel)) rfl
theorem wk_773 : Cond.code ⟨"BoxedHeirs$Sightings", "add", "(IZ)I"⟩ prog_10_method_3_code 3 (some .int) ∈ TB := TB_in (List.mem_of_getElem? (i := 773) (by decide +kernel)) rfl
theorem wk_774 : Cond.constant "BoxedHeirs$Sightings" 22 (-1000000004) ∈ TB := TB_in (List.mem_of_getElem? (i := 774) (by decide +kernel)) rfl
theorem wk_779 : Cond.methodLink "BoxedHeirs" 308 ⟨"BoxedHeirs", "isTuneToBeFound", "(I)Z"⟩ ∈ TB := TB_in (List.mem_of_getElem? (i := 779) (by decide +kernel)) rfl
theorem wk_780 : Cond.static ⟨"BoxedHeirs", "isTuneToBeFound", "(I)Z"⟩ ∈ TB := TB_in (List.mem_of_getElem? (i := 780) (by decide +kernel)) rfl
theorem wk_781 : Cond.code ⟨"BoxedHeirs", "isTuneToBeFound", "(I)Z"⟩ prog_1_method_37_code 1 (some .boolean) ∈ TB := TB_in (List.mem_of_getElem? (i := 781) (by decide +kernel)) rfl
theorem wk_782 : Cond.methodLink "BoxedHeirs" 311 ⟨"BoxedHeirs$Sightings", "allThatFit", "(I)I"⟩ ∈ TB := TB_in (List.mem_of_getElem? (i := 782) (by decide +kernel)) rfl
theorem wk_783 : Cond.instanceMethod ⟨"BoxedHeirs$Sightings", "allThatFit", "(I)I"⟩ ∈ TB := TB_in (List.mem_of_getElem? (i := 783) (by decide +kernel)) rfl
theorem wk_784 : Cond.selects "BoxedHeirs$Sightings" ⟨"BoxedHeirs$Sightings", "allThatFit", "(I)I"⟩ ⟨"BoxedHeirs$Sightings", "allThatFit", "(I)I"⟩ ∈ TB := TB_in (List.mem_of_getElem? (i := 784) (by decide +kernel)) rfl
theorem wk_785 : Cond.code ⟨"BoxedHeirs$Sightings", "allThatFit", "(I)I"⟩ prog_10_method_6_code 4 (some .int) ∈ TB := TB_in (List.mem_of_getElem? (i := 785) (by decide +kernel)) rfl
theorem wk_786 : Cond.methodLink "BoxedHeirs$Sightings" 27 ⟨"BoxedHeirs$Sightings", "fits", "(II)Z"⟩ ∈ TB := TB_in (List.mem_of_getElem? (i := 786) (by decide +kernel)) rfl
theorem wk_787 : Cond.instanceMethod ⟨"BoxedHeirs$Sightings", "fits", "(II)Z"⟩ ∈ TB := TB_in (List.mem_of_getElem? (i := 787) (by decide +kernel)) rfl
theorem wk_788 : Cond.selects "BoxedHeirs$Sightings" ⟨"BoxedHeirs$Sightings", "fits", "(II)Z"⟩ ⟨"BoxedHeirs$Sightings", "fits", "(II)Z"⟩ ∈ TB := TB_in (List.mem_of_getElem? (i := 788) (by decide +kernel)) rfl
theorem wk_789 : Cond.code ⟨"BoxedHeirs$Sightings", "fits", "(II)Z"⟩ prog_10_method_5_code 5 (some .boolean) ∈ TB := TB_in (List.mem_of_getElem? (i := 789) (by decide +kernel)) rfl
theorem wk_790 : Cond.methodLink "BoxedHeirs$Sightings" 23 ⟨"BoxedHeirs$Sightings", "isLiftedAt", "(III)Z"⟩ ∈ TB := TB_in (List.mem_of_getElem? (i := 790) (by decide +kernel)) rfl
theorem wk_791 : Cond.static ⟨"BoxedHeirs$Sightings", "isLiftedAt", "(III)Z"⟩ ∈ TB := TB_in (List.mem_of_getElem? (i := 791) (by decide +kernel)) rfl
theorem wk_792 : Cond.code ⟨"BoxedHeirs$Sightings", "isLiftedAt", "(III)Z"⟩ prog_10_method_4_code 4 (some .boolean) ∈ TB := TB_in (List.mem_of_getElem? (i := 792) (by decide +kernel)) rfl
theorem wk_797 : Cond.methodLink "BoxedHeirs" 314 ⟨"BoxedHeirs$Sightings", "bestToTry", "(I)I"⟩ ∈ TB := TB_in (List.mem_of_getElem? (i := 797) (by decide +kernel)) rfl
theorem wk_798 : Cond.instanceMethod ⟨"BoxedHeirs$Sightings", "bestToTry", "(I)I"⟩ ∈ TB := TB_in (List.mem_of_getElem? (i := 798) (by decide +kernel)) rfl
theorem wk_799 : Cond.selects "BoxedHeirs$Sightings" ⟨"BoxedHeirs$Sightings", "bestToTry", "(I)I"⟩ ⟨"BoxedHeirs$Sightings", "bestToTry", "(I)I"⟩ ∈ TB := TB_in (List.mem_of_getElem? (i := 799) (by decide +kernel)) rfl
theorem wk_800 : Cond.code ⟨"BoxedHeirs$Sightings", "bestToTry", "(I)I"⟩ prog_10_method_7_code 9 (some .int) ∈ TB := TB_in (List.mem_of_getElem? (i := 800) (by decide +kernel)) rfl
theorem wk_801 : Cond.methodLink "BoxedHeirs$Sightings" 31 ⟨"BoxedHeirs$Sightings", "allThatFit", "(I)I"⟩ ∈ TB := TB_in (List.mem_of_getElem? (i := 801) (by decide +kernel)) rfl
theorem wk_802 : Cond.methodLink "BoxedHeirs$Sightings" 35 ⟨"java/lang/Integer", "bitCount", "(I)I"⟩ ∈ TB := TB_in (List.mem_of_getElem? (i := 802) (by decide +kernel)) rfl
theorem wk_803 : Cond.methodLink "BoxedHeirs$Sightings" 40 ⟨"BoxedHeirs$Sightings", "howManyLift", "(III)I"⟩ ∈ TB := TB_in (List.mem_of_getElem? (i := 803) (by decide +kernel)) rfl
theorem wk_804 : Cond.static ⟨"BoxedHeirs$Sightings", "howManyLift", "(III)I"⟩ ∈ TB := TB_in (List.mem_of_getElem? (i := 804) (by decide +kernel)) rfl
theorem wk_805 : Cond.code ⟨"BoxedHeirs$Sightings", "howManyLift", "(III)I"⟩ prog_10_method_8_code 5 (some .int) ∈ TB := TB_in (List.mem_of_getElem? (i := 805) (by decide +kernel)) rfl
theorem wk_806 : Cond.methodLink "BoxedHeirs$Sightings" 44 ⟨"java/lang/Math", "max", "(II)I"⟩ ∈ TB := TB_in (List.mem_of_getElem? (i := 806) (by decide +kernel)) rfl
theorem wk_811 : Cond.methodLink "BoxedHeirs" 317 ⟨"BoxedHeirs$Ledger", "add", "(II)I"⟩ ∈ TB := TB_in (List.mem_of_getElem? (i := 811) (by decide +kernel)) rfl
theorem wk_812 : Cond.instanceMethod ⟨"BoxedHeirs$Ledger", "add", "(II)I"⟩ ∈ TB := TB_in (List.mem_of_getElem? (i := 812) (by decide +kernel)) rfl
theorem wk_813 : Cond.selects "BoxedHeirs$Ledger" ⟨"BoxedHeirs$Ledger", "add", "(II)I"⟩ ⟨"BoxedHeirs$Ledger", "add", "(II)I"⟩ ∈ TB := TB_in (List.mem_of_getElem? (i := 813) (by decide +kernel)) rfl
theorem wk_814 : Cond.code ⟨"BoxedHeirs$Ledger", "add", "(II)I"⟩ prog_4_method_3_code 3 (some .int) ∈ TB := TB_in (List.mem_of_getElem? (i := 814) (by decide +kernel)) rfl
theorem wk_815 : Cond.constant "BoxedHeirs$Ledger" 22 (-1000000004) ∈ TB := TB_in (List.mem_of_getElem? (i := 815) (by decide +kernel)) rfl
theorem wk_824 : Cond.methodLink "BoxedHeirs" 319 ⟨"BoxedHeirs$Ledger", "firstWrong", "(LBoxedHeirs$Scene;)I"⟩ ∈ TB := TB_in (List.mem_of_getElem? (i := 824) (by decide +kernel)) rfl
theorem wk_825 : Cond.instanceMethod ⟨"BoxedHeirs$Ledger", "firstWrong", "(LBoxedHeirs$Scene;)I"⟩ ∈ TB := TB_in (List.mem_of_getElem? (i := 825) (by decide +kernel)) rfl
theorem wk_826 : Cond.selects "BoxedHeirs$Ledger" ⟨"BoxedHeirs$Ledger", "firstWrong", "(LBoxedHeirs$Scene;)I"⟩ ⟨"BoxedHeirs$Ledger", "firstWrong", "(LBoxedHeirs$Scene;)I"⟩ ∈ TB := TB_in (List.mem_of_getElem? (i := 826) (by decide +kernel)) rfl
theorem wk_827 : Cond.code ⟨"BoxedHeirs$Ledger", "firstWrong", "(LBoxedHeirs$Scene;)I"⟩ prog_4_method_4_code 3 (some .int) ∈ TB := TB_in (List.mem_of_getElem? (i := 827) (by decide +kernel)) rfl
theorem wk_828 : Cond.methodLink "BoxedHeirs$Ledger" 23 ⟨"BoxedHeirs$Scene", "at", "(I)I"⟩ ∈ TB := TB_in (List.mem_of_getElem? (i := 828) (by decide +kernel)) rfl
theorem wk_837 : Cond.methodLink "BoxedHeirs" 326 ⟨"BoxedHeirs", "isImage", "(I)Z"⟩ ∈ TB := TB_in (List.mem_of_getElem? (i := 837) (by decide +kernel)) rfl
theorem wk_838 : Cond.static ⟨"BoxedHeirs", "isImage", "(I)Z"⟩ ∈ TB := TB_in (List.mem_of_getElem? (i := 838) (by decide +kernel)) rfl
theorem wk_839 : Cond.code ⟨"BoxedHeirs", "isImage", "(I)Z"⟩ prog_1_method_36_code 1 (some .boolean) ∈ TB := TB_in (List.mem_of_getElem? (i := 839) (by decide +kernel)) rfl
theorem wk_840 : Cond.methodLink "BoxedHeirs" 329 ⟨"BoxedHeirs$Album", "put", "(ILBoxedHeirs$Scene;I)V"⟩ ∈ TB := TB_in (List.mem_of_getElem? (i := 840) (by decide +kernel)) rfl
theorem wk_841 : Cond.instanceMethod ⟨"BoxedHeirs$Album", "put", "(ILBoxedHeirs$Scene;I)V"⟩ ∈ TB := TB_in (List.mem_of_getElem? (i := 841) (by decide +kernel)) rfl
theorem wk_842 : Cond.selects "BoxedHeirs$Album" ⟨"BoxedHeirs$Album", "put", "(ILBoxedHeirs$Scene;I)V"⟩ ⟨"BoxedHeirs$Album", "put", "(ILBoxedHeirs$Scene;I)V"⟩ ∈ TB := TB_in (List.mem_of_getElem? (i := 842) (by decide +kernel)) rfl
theorem wk_843 : Cond.code ⟨"BoxedHeirs$Album", "put", "(ILBoxedHeirs$Scene;I)V"⟩ prog_2_method_4_code 4 none ∈ TB := TB_in (List.mem_of_getElem? (i := 843) (by decide +kernel)) rfl
theorem wk_844 : Cond.methodLink "BoxedHeirs$Album" 25 ⟨"java/lang/System", "arraycopy", "(Ljava/lang/Object;ILjava/lang/Object;II)V"⟩ ∈ TB := TB_in (List.mem_of_getElem? (i := 844) (by decide +kernel)) rfl
theorem wk_849 : Cond.methodLink "BoxedHeirs" 333 ⟨"BoxedHeirs$Album", "has", "(I)Z"⟩ ∈ TB := TB_in (List.mem_of_getElem? (i := 849) (by decide +kernel)) rfl
theorem wk_850 : Cond.instanceMethod ⟨"BoxedHeirs$Album", "has", "(I)Z"⟩ ∈ TB := TB_in (List.mem_of_getElem? (i := 850) (by decide +kernel)) rfl
theorem wk_851 : Cond.selects "BoxedHeirs$Album" ⟨"BoxedHeirs$Album", "has", "(I)Z"⟩ ⟨"BoxedHeirs$Album", "has", "(I)Z"⟩ ∈ TB := TB_in (List.mem_of_getElem? (i := 851) (by decide +kernel)) rfl
theorem wk_852 : Cond.code ⟨"BoxedHeirs$Album", "has", "(I)Z"⟩ prog_2_method_3_code 2 (some .boolean) ∈ TB := TB_in (List.mem_of_getElem? (i := 852) (by decide +kernel)) rfl
theorem wk_853 : Cond.methodLink "BoxedHeirs" 336 ⟨"BoxedHeirs$Album", "show", "(ILBoxedHeirs$Scene;)I"⟩ ∈ TB := TB_in (List.mem_of_getElem? (i := 853) (by decide +kernel)) rfl
theorem wk_854 : Cond.instanceMethod ⟨"BoxedHeirs$Album", "show", "(ILBoxedHeirs$Scene;)I"⟩ ∈ TB := TB_in (List.mem_of_getElem? (i := 854) (by decide +kernel)) rfl
theorem wk_855 : Cond.selects "BoxedHeirs$Album" ⟨"BoxedHeirs$Album", "show", "(ILBoxedHeirs$Scene;)I"⟩ ⟨"BoxedHeirs$Album", "show", "(ILBoxedHeirs$Scene;)I"⟩ ∈ TB := TB_in (List.mem_of_getElem? (i := 855) (by decide +kernel)) rfl
theorem wk_856 : Cond.code ⟨"BoxedHeirs$Album", "show", "(ILBoxedHeirs$Scene;)I"⟩ prog_2_method_5_code 3 (some .int) ∈ TB := TB_in (List.mem_of_getElem? (i := 856) (by decide +kernel)) rfl
theorem wk_863 : Cond.fieldLink "BoxedHeirsModel" 90 "BoxedHeirsModel" "rustEach" "I" ∈ TB := TB_in (List.mem_of_getElem? (i := 863) (by decide +kernel)) rfl
theorem wk_864 : Cond.fieldLink "BoxedHeirsModel" 93 "BoxedHeirsModel" "boxes" "I" ∈ TB := TB_in (List.mem_of_getElem? (i := 864) (by decide +kernel)) rfl
theorem wk_865 : Cond.fieldLink "BoxedHeirsModel" 7 "BoxedHeirsModel" "tune" "[I" ∈ TB := TB_in (List.mem_of_getElem? (i := 865) (by decide +kernel)) rfl
theorem wk_866 : Cond.fieldLink "BoxedHeirsModel" 13 "BoxedHeirsModel" "hook" "[I" ∈ TB := TB_in (List.mem_of_getElem? (i := 866) (by decide +kernel)) rfl
theorem wk_867 : Cond.fieldLink "BoxedHeirsModel" 16 "BoxedHeirsModel" "spring" "[I" ∈ TB := TB_in (List.mem_of_getElem? (i := 867) (by decide +kernel)) rfl
theorem wk_868 : Cond.fieldLink "BoxedHeirsModel" 19 "BoxedHeirsModel" "kind" "[I" ∈ TB := TB_in (List.mem_of_getElem? (i := 868) (by decide +kernel)) rfl
theorem wk_869 : Cond.fieldLink "BoxedHeirsModel" 22 "BoxedHeirsModel" "inside" "[I" ∈ TB := TB_in (List.mem_of_getElem? (i := 869) (by decide +kernel)) rfl
theorem wk_870 : Cond.fieldLink "BoxedHeirsModel" 169 "BoxedHeirsModel" "insides" "I" ∈ TB := TB_in (List.mem_of_getElem? (i := 870) (by decide +kernel)) rfl
theorem wk_871 : Cond.fieldLink "BoxedHeirsModel" 100 "BoxedHeirsModel" "regents" "I" ∈ TB := TB_in (List.mem_of_getElem? (i := 871) (by decide +kernel)) rfl
theorem wk_872 : Cond.fieldLink "BoxedHeirsModel" 25 "BoxedHeirsModel" "weight" "[I" ∈ TB := TB_in (List.mem_of_getElem? (i := 872) (by decide +kernel)) rfl
theorem wk_873 : Cond.fieldLink "BoxedHeirsModel" 28 "BoxedHeirsModel" "now" "[I" ∈ TB := TB_in (List.mem_of_getElem? (i := 873) (by decide +kernel)) rfl
theorem wk_874 : Cond.fieldLink "BoxedHeirsModel" 258 "BoxedHeirsModel" "seed" "I" ∈ TB := TB_in (List.mem_of_getElem? (i := 874) (by decide +kernel)) rfl
theorem wk_875 : Cond.fieldLink "BoxedHeirsModel" 31 "BoxedHeirsModel" "text" "[I" ∈ TB := TB_in (List.mem_of_getElem? (i := 875) (by decide +kernel)) rfl
theorem wk_876 : Cond.fieldLink "BoxedHeirsModel" 110 "BoxedHeirsModel" "texted" "I" ∈ TB := TB_in (List.mem_of_getElem? (i := 876) (by decide +kernel)) rfl
theorem wk_877 : Cond.fieldLink "BoxedHeirsModel" 34 "BoxedHeirsModel" "faultPlace" "I" ∈ TB := TB_in (List.mem_of_getElem? (i := 877) (by decide +kernel)) rfl
theorem wk_878 : Cond.fieldLink "BoxedHeirsModel" 114 "BoxedHeirsModel" "at0" "I" ∈ TB := TB_in (List.mem_of_getElem? (i := 878) (by decide +kernel)) rfl
theorem wk_879 : Cond.fieldLink "BoxedHeirsModel" 132 "BoxedHeirsModel" "number" "I" ∈ TB := TB_in (List.mem_of_getElem? (i := 879) (by decide +kernel)) rfl
theorem wk_880 : Cond.fieldLink "BoxedHeirsModel" 129 "BoxedHeirsModel" "numberAt" "I" ∈ TB := TB_in (List.mem_of_getElem? (i := 880) (by decide +kernel)) rfl
theorem wk_881 : Cond.fieldLink "BoxedHeirsModel" 138 "BoxedHeirsModel" "readRust" "I" ∈ TB := TB_in (List.mem_of_getElem? (i := 881) (by decide +kernel)) rfl
theorem wk_882 : Cond.fieldLink "BoxedHeirsModel" 141 "BoxedHeirsModel" "readBoxes" "I" ∈ TB := TB_in (List.mem_of_getElem? (i := 882) (by decide +kernel)) rfl
theorem wk_883 : Cond.fieldLink "BoxedHeirsModel" 38 "BoxedHeirsModel" "readTune" "[I" ∈ TB := TB_in (List.mem_of_getElem? (i := 883) (by decide +kernel)) rfl
theorem wk_884 : Cond.fieldLink "BoxedHeirsModel" 41 "BoxedHeirsModel" "readHook" "[I" ∈ TB := TB_in (List.mem_of_getElem? (i := 884) (by decide +kernel)) rfl
theorem wk_885 : Cond.fieldLink "BoxedHeirsModel" 44 "BoxedHeirsModel" "readSpring" "[I" ∈ TB := TB_in (List.mem_of_getElem? (i := 885) (by decide +kernel)) rfl
theorem wk_886 : Cond.fieldLink "BoxedHeirsModel" 47 "BoxedHeirsModel" "readKind" "[I" ∈ TB := TB_in (List.mem_of_getElem? (i := 886) (by decide +kernel)) rfl
theorem wk_887 : Cond.fieldLink "BoxedHeirsModel" 50 "BoxedHeirsModel" "readInside" "[I" ∈ TB := TB_in (List.mem_of_getElem? (i := 887) (by decide +kernel)) rfl
theorem wk_888 : Cond.fieldLink "BoxedHeirsModel" 148 "BoxedHeirsModel" "readInsides" "I" ∈ TB := TB_in (List.mem_of_getElem? (i := 888) (by decide +kernel)) rfl
theorem wk_889 : Cond.fieldLink "BoxedHeirsModel" 151 "BoxedHeirsModel" "readRegents" "I" ∈ TB := TB_in (List.mem_of_getElem? (i := 889) (by decide +kernel)) rfl
theorem wk_890 : Cond.fieldLink "BoxedHeirsModel" 53 "BoxedHeirsModel" "readWeight" "[I" ∈ TB := TB_in (List.mem_of_getElem? (i := 890) (by decide +kernel)) rfl
theorem wk_891 : Cond.fieldLink "BoxedHeirsModel" 188 "BoxedHeirsModel" "undos" "I" ∈ TB := TB_in (List.mem_of_getElem? (i := 891) (by decide +kernel)) rfl
theorem wk_892 : Cond.fieldLink "BoxedHeirsModel" 56 "BoxedHeirsModel" "past" "[I" ∈ TB := TB_in (List.mem_of_getElem? (i := 892) (by decide +kernel)) rfl
theorem wk_893 : Cond.fieldLink "BoxedHeirsModel" 59 "BoxedHeirsModel" "before" "[I" ∈ TB := TB_in (List.mem_of_getElem? (i := 893) (by decide +kernel)) rfl
theorem wk_894 : Cond.fieldLink "BoxedHeirsModel" 62 "BoxedHeirsModel" "meets" "[Z" ∈ TB := TB_in (List.mem_of_getElem? (i := 894) (by decide +kernel)) rfl
theorem wk_895 : Cond.fieldLink "BoxedHeirsModel" 66 "BoxedHeirsModel" "member" "[I" ∈ TB := TB_in (List.mem_of_getElem? (i := 895) (by decide +kernel)) rfl
theorem wk_896 : Cond.fieldLink "BoxedHeirsModel" 69 "BoxedHeirsModel" "held" "[I" ∈ TB := TB_in (List.mem_of_getElem? (i := 896) (by decide +kernel)) rfl
theorem wk_897 : Cond.fieldLink "BoxedHeirsModel" 182 "BoxedHeirsModel" "seen" "I" ∈ TB := TB_in (List.mem_of_getElem? (i := 897) (by decide +kernel)) rfl
theorem wk_898 : Cond.fieldLink "BoxedHeirsModel" 72 "BoxedHeirsModel" "seenAt" "[I" ∈ TB := TB_in (List.mem_of_getElem? (i := 898) (by decide +kernel)) rfl
theorem wk_899 : Cond.fieldLink "BoxedHeirsModel" 75 "BoxedHeirsModel" "seenLifts" "[Z" ∈ TB := TB_in (List.mem_of_getElem? (i := 899) (by decide +kernel)) rfl
theorem wk_900 : Cond.fieldLink "BoxedHeirsModel" 185 "BoxedHeirsModel" "booked" "I" ∈ TB := TB_in (List.mem_of_getElem? (i := 900) (by decide +kernel)) rfl
theorem wk_901 : Cond.fieldLink "BoxedHeirsModel" 78 "BoxedHeirsModel" "bookOf" "[I" ∈ TB := TB_in (List.mem_of_getElem? (i := 901) (by decide +kernel)) rfl
theorem wk_902 : Cond.fieldLink "BoxedHeirsModel" 81 "BoxedHeirsModel" "bookIs" "[I" ∈ TB := TB_in (List.mem_of_getElem? (i := 902) (by decide +kernel)) rfl
theorem wk_903 : Cond.fieldLink "BoxedHeirsModel" 84 "BoxedHeirsModel" "images" "[I" ∈ TB := TB_in (List.mem_of_getElem? (i := 903) (by decide +kernel)) rfl
theorem wk_904 : Cond.fieldLink "BoxedHeirsModel" 87 "BoxedHeirsModel" "isKept" "[Z" ∈ TB := TB_in (List.mem_of_getElem? (i := 904) (by decide +kernel)) rfl
theorem wk_995 : Cond.constantLong "BoxedHeirsModel" 107 (255) ∈ TB := TB_in (List.mem_of_getElem? (i := 995) (by decide +kernel)) rfl
theorem wk_996 : Cond.methodLink "BoxedHeirsModel" 96 ⟨"BoxedHeirsModel", "in", "(JJJ)Z"⟩ ∈ TB := TB_in (List.mem_of_getElem? (i := 996) (by decide +kernel)) rfl
theorem wk_997 : Cond.static ⟨"BoxedHeirsModel", "in", "(JJJ)Z"⟩ ∈ TB := TB_in (List.mem_of_getElem? (i := 997) (by decide +kernel)) rfl
theorem wk_998 : Cond.code ⟨"BoxedHeirsModel", "in", "(JJJ)Z"⟩ prog_12_method_3_code 6 (some .boolean) ∈ TB := TB_in (List.mem_of_getElem? (i := 998) (by decide +kernel)) rfl
theorem wk_999 : Cond.constant "BoxedHeirsModel" 109 (-1000000002) ∈ TB := TB_in (List.mem_of_getElem? (i := 999) (by decide +kernel)) rfl
theorem wk_1000 : Cond.constant "BoxedHeirsModel" 113 (-1000000004) ∈ TB := TB_in (List.mem_of_getElem? (i := 1000) (by decide +kernel)) rfl
theorem wk_1005 : Cond.methodLink "BoxedHeirsModel" 117 ⟨"BoxedHeirsModel", "here", "()I"⟩ ∈ TB := TB_in (List.mem_of_getElem? (i := 1005) (by decide +kernel)) rfl
theorem wk_1007 : Cond.instanceMethod ⟨"BoxedHeirsModel", "here", "()I"⟩ ∈ TB := TB_in (List.mem_of_getElem? (i := 1007) (by decide +kernel)) rfl
theorem wk_1008 : Cond.code ⟨"BoxedHeirsModel", "here", "()I"⟩ prog_12_method_10_code 1 (some .int) ∈ TB := TB_in (List.mem_of_getElem? (i := 1008) (by decide +kernel)) rfl
theorem wk_1009 : Cond.methodLink "BoxedHeirsModel" 176 ⟨"BoxedHeirsModel", "takeClause", "()I"⟩ ∈ TB := TB_in (List.mem_of_getElem? (i := 1009) (by decide +kernel)) rfl
theorem wk_1011 : Cond.instanceMethod ⟨"BoxedHeirsModel", "takeClause", "()I"⟩ ∈ TB := TB_in (List.mem_of_getElem? (i := 1011) (by decide +kernel)) rfl
theorem wk_1012 : Cond.code ⟨"BoxedHeirsModel", "takeClause", "()I"⟩ prog_12_method_19_code 4 (some .int) ∈ TB := TB_in (List.mem_of_getElem? (i := 1012) (by decide +kernel)) rfl
theorem wk_1013 : Cond.methodLink "BoxedHeirsModel" 125 ⟨"BoxedHeirsModel", "fails", "(II)I"⟩ ∈ TB := TB_in (List.mem_of_getElem? (i := 1013) (by decide +kernel)) rfl
theorem wk_1015 : Cond.instanceMethod ⟨"BoxedHeirsModel", "fails", "(II)I"⟩ ∈ TB := TB_in (List.mem_of_getElem? (i := 1015) (by decide +kernel)) rfl
theorem wk_1016 : Cond.code ⟨"BoxedHeirsModel", "fails", "(II)I"⟩ prog_12_method_11_code 3 (some .int) ∈ TB := TB_in (List.mem_of_getElem? (i := 1016) (by decide +kernel)) rfl
theorem wk_1017 : Cond.methodLink "BoxedHeirsModel" 154 ⟨"BoxedHeirsModel", "isFull", "(I)Z"⟩ ∈ TB := TB_in (List.mem_of_getElem? (i := 1017) (by decide +kernel)) rfl
theorem wk_1019 : Cond.instanceMethod ⟨"BoxedHeirsModel", "isFull", "(I)Z"⟩ ∈ TB := TB_in (List.mem_of_getElem? (i := 1019) (by decide +kernel)) rfl
theorem wk_1020 : Cond.code ⟨"BoxedHeirsModel", "isFull", "(I)Z"⟩ prog_12_method_18_code 2 (some .boolean) ∈ TB := TB_in (List.mem_of_getElem? (i := 1020) (by decide +kernel)) rfl
theorem wk_1021 : Cond.methodLink "BoxedHeirsModel" 157 ⟨"BoxedHeirsModel", "takeDuchy", "()I"⟩ ∈ TB := TB_in (List.mem_of_getElem? (i := 1021) (by decide +kernel)) rfl
theorem wk_1023 : Cond.instanceMethod ⟨"BoxedHeirsModel", "takeDuchy", "()I"⟩ ∈ TB := TB_in (List.mem_of_getElem? (i := 1023) (by decide +kernel)) rfl
theorem wk_1024 : Cond.code ⟨"BoxedHeirsModel", "takeDuchy", "()I"⟩ prog_12_method_14_code 2 (some .int) ∈ TB := TB_in (List.mem_of_getElem? (i := 1024) (by decide +kernel)) rfl
theorem wk_1025 : Cond.methodLink "BoxedHeirsModel" 135 ⟨"BoxedHeirsModel", "takeNumber", "(II)I"⟩ ∈ TB := TB_in (List.mem_of_getElem? (i := 1025) (by decide +kernel)) rfl
theorem wk_1027 : Cond.instanceMethod ⟨"BoxedHeirsModel", "takeNumber", "(II)I"⟩ ∈ TB := TB_in (List.mem_of_getElem? (i := 1027) (by decide +kernel)) rfl
theorem wk_1028 : Cond.code ⟨"BoxedHeirsModel", "takeNumber", "(II)I"⟩ prog_12_method_12_code 4 (some .int) ∈ TB := TB_in (List.mem_of_getElem? (i := 1028) (by decide +kernel)) rfl
theorem wk_1029 : Cond.constantLong "BoxedHeirsModel" 121 (48) ∈ TB := TB_in (List.mem_of_getElem? (i := 1029) (by decide +kernel)) rfl
theorem wk_1030 : Cond.constantLong "BoxedHeirsModel" 123 (57) ∈ TB := TB_in (List.mem_of_getElem? (i := 1030) (by decide +kernel)) rfl
theorem wk_1031 : Cond.methodLink "BoxedHeirsModel" 160 ⟨"BoxedHeirsModel", "takeBox", "()I"⟩ ∈ TB := TB_in (List.mem_of_getElem? (i := 1031) (by decide +kernel)) rfl
theorem wk_1033 : Cond.instanceMethod ⟨"BoxedHeirsModel", "takeBox", "()I"⟩ ∈ TB := TB_in (List.mem_of_getElem? (i := 1033) (by decide +kernel)) rfl
theorem wk_1034 : Cond.code ⟨"BoxedHeirsModel", "takeBox", "()I"⟩ prog_12_method_15_code 3 (some .int) ∈ TB := TB_in (List.mem_of_getElem? (i := 1034) (by decide +kernel)) rfl
theorem wk_1035 : Cond.methodLink "BoxedHeirsModel" 144 ⟨"BoxedHeirsModel", "into", "([IIII)I"⟩ ∈ TB := TB_in (List.mem_of_getElem? (i := 1035) (by decide +kernel)) rfl
theorem wk_1037 : Cond.instanceMethod ⟨"BoxedHeirsModel", "into", "([IIII)I"⟩ ∈ TB := TB_in (List.mem_of_getElem? (i := 1037) (by decide +kernel)) rfl
theorem wk_1038 : Cond.code ⟨"BoxedHeirsModel", "into", "([IIII)I"⟩ prog_12_method_13_code 6 (some .int) ∈ TB := TB_in (List.mem_of_getElem? (i := 1038) (by decide +kernel)) rfl
theorem wk_1039 : Cond.methodLink "BoxedHeirsModel" 163 ⟨"BoxedHeirsModel", "takeInside", "()I"⟩ ∈ TB := TB_in (List.mem_of_getElem? (i := 1039) (by decide +kernel)) rfl
theorem wk_1041 : Cond.instanceMethod ⟨"BoxedHeirsModel", "takeInside", "()I"⟩ ∈ TB := TB_in (List.mem_of_getElem? (i := 1041) (by decide +kernel)) rfl
theorem wk_1042 : Cond.code ⟨"BoxedHeirsModel", "takeInside", "()I"⟩ prog_12_method_16_code 3 (some .int) ∈ TB := TB_in (List.mem_of_getElem? (i := 1042) (by decide +kernel)) rfl
theorem wk_1043 : Cond.methodLink "BoxedHeirsModel" 166 ⟨"BoxedHeirsModel", "takeRegent", "()I"⟩ ∈ TB := TB_in (List.mem_of_getElem? (i := 1043) (by decide +kernel)) rfl
theorem wk_1045 : Cond.instanceMethod ⟨"BoxedHeirsModel", "takeRegent", "()I"⟩ ∈ TB := TB_in (List.mem_of_getElem? (i := 1045) (by decide +kernel)) rfl
theorem wk_1046 : Cond.code ⟨"BoxedHeirsModel", "takeRegent", "()I"⟩ prog_12_method_17_code 1 (some .int) ∈ TB := TB_in (List.mem_of_getElem? (i := 1046) (by decide +kernel)) rfl
theorem wk_1047 : Cond.methodLink "BoxedHeirsModel" 179 ⟨"BoxedHeirsModel", "takeRead", "()V"⟩ ∈ TB := TB_in (List.mem_of_getElem? (i := 1047) (by decide +kernel)) rfl
theorem wk_1049 : Cond.instanceMethod ⟨"BoxedHeirsModel", "takeRead", "()V"⟩ ∈ TB := TB_in (List.mem_of_getElem? (i := 1049) (by decide +kernel)) rfl
theorem wk_1050 : Cond.code ⟨"BoxedHeirsModel", "takeRead", "()V"⟩ prog_12_method_21_code 2 none ∈ TB := TB_in (List.mem_of_getElem? (i := 1050) (by decide +kernel)) rfl
theorem wk_1051 : Cond.methodLink "BoxedHeirsModel" 172 ⟨"BoxedHeirsModel", "copyRow", "([I[II)V"⟩ ∈ TB := TB_in (List.mem_of_getElem? (i := 1051) (by decide +kernel)) rfl
theorem wk_1052 : Cond.static ⟨"BoxedHeirsModel", "copyRow", "([I[II)V"⟩ ∈ TB := TB_in (List.mem_of_getElem? (i := 1052) (by decide +kernel)) rfl
theorem wk_1053 : Cond.code ⟨"BoxedHeirsModel", "copyRow", "([I[II)V"⟩ prog_12_method_20_code 4 none ∈ TB := TB_in (List.mem_of_getElem? (i := 1053) (by decide +kernel)) rfl
theorem wk_1062 : Cond.methodLink "BoxedHeirsModel" 224 ⟨"BoxedHeirsModel", "swaying", "()I"⟩ ∈ TB := TB_in (List.mem_of_getElem? (i := 1062) (by decide +kernel)) rfl
theorem wk_1064 : Cond.instanceMethod ⟨"BoxedHeirsModel", "swaying", "()I"⟩ ∈ TB := TB_in (List.mem_of_getElem? (i := 1064) (by decide +kernel)) rfl
theorem wk_1065 : Cond.code ⟨"BoxedHeirsModel", "swaying", "()I"⟩ prog_12_method_35_code 3 (some .int) ∈ TB := TB_in (List.mem_of_getElem? (i := 1065) (by decide +kernel)) rfl
theorem wk_1066 : Cond.methodLink "BoxedHeirsModel" 227 ⟨"BoxedHeirsModel", "heldOnes", "()I"⟩ ∈ TB := TB_in (List.mem_of_getElem? (i := 1066) (by decide +kernel)) rfl
theorem wk_1068 : Cond.instanceMethod ⟨"BoxedHeirsModel", "heldOnes", "()I"⟩ ∈ TB := TB_in (List.mem_of_getElem? (i := 1068) (by decide +kernel)) rfl
theorem wk_1069 : Cond.code ⟨"BoxedHeirsModel", "heldOnes", "()I"⟩ prog_12_method_36_code 3 (some .int) ∈ TB := TB_in (List.mem_of_getElem? (i := 1069) (by decide +kernel)) rfl
theorem wk_1070 : Cond.methodLink "BoxedHeirsModel" 211 ⟨"BoxedHeirsModel", "isHeld", "(I)Z"⟩ ∈ TB := TB_in (List.mem_of_getElem? (i := 1070) (by decide +kernel)) rfl
theorem wk_1072 : Cond.instanceMethod ⟨"BoxedHeirsModel", "isHeld", "(I)Z"⟩ ∈ TB := TB_in (List.mem_of_getElem? (i := 1072) (by decide +kernel)) rfl
theorem wk_1073 : Cond.code ⟨"BoxedHeirsModel", "isHeld", "(I)Z"⟩ prog_12_method_30_code 3 (some .boolean) ∈ TB := TB_in (List.mem_of_getElem? (i := 1073) (by decide +kernel)) rfl
theorem wk_1074 : Cond.methodLink "BoxedHeirsModel" 205 ⟨"BoxedHeirsModel", "weightsOn", "(I)I"⟩ ∈ TB := TB_in (List.mem_of_getElem? (i := 1074) (by decide +kernel)) rfl
theorem wk_1076 : Cond.instanceMethod ⟨"BoxedHeirsModel", "weightsOn", "(I)I"⟩ ∈ TB := TB_in (List.mem_of_getElem? (i := 1076) (by decide +kernel)) rfl
theorem wk_1077 : Cond.code ⟨"BoxedHeirsModel", "weightsOn", "(I)I"⟩ prog_12_method_29_code 4 (some .int) ∈ TB := TB_in (List.mem_of_getElem? (i := 1077) (by decide +kernel)) rfl
theorem wk_1078 : Cond.methodLink "BoxedHeirsModel" 208 ⟨"BoxedHeirsModel", "forceOf", "(I)I"⟩ ∈ TB := TB_in (List.mem_of_getElem? (i := 1078) (by decide +kernel)) rfl
theorem wk_1080 : Cond.instanceMethod ⟨"BoxedHeirsModel", "forceOf", "(I)I"⟩ ∈ TB := TB_in (List.mem_of_getElem? (i := 1080) (by decide +kernel)) rfl
theorem wk_1081 : Cond.code ⟨"BoxedHeirsModel", "forceOf", "(I)I"⟩ prog_12_method_28_code 2 (some .int) ∈ TB := TB_in (List.mem_of_getElem? (i := 1081) (by decide +kernel)) rfl
theorem wk_1082 : Cond.methodLink "BoxedHeirsModel" 202 ⟨"BoxedHeirsModel", "forceBy", "(II)I"⟩ ∈ TB := TB_in (List.mem_of_getElem? (i := 1082) (by decide +kernel)) rfl
theorem wk_1084 : Cond.instanceMethod ⟨"BoxedHeirsModel", "forceBy", "(II)I"⟩ ∈ TB := TB_in (List.mem_of_getElem? (i := 1084) (by decide +kernel)) rfl
theorem wk_1085 : Cond.code ⟨"BoxedHeirsModel", "forceBy", "(II)I"⟩ prog_12_method_27_code 4 (some .int) ∈ TB := TB_in (List.mem_of_getElem? (i := 1085) (by decide +kernel)) rfl
theorem wk_1086 : Cond.methodLink "BoxedHeirsModel" 199 ⟨"BoxedHeirsModel", "lessBy", "(II)I"⟩ ∈ TB := TB_in (List.mem_of_getElem? (i := 1086) (by decide +kernel)) rfl
theorem wk_1088 : Cond.instanceMethod ⟨"BoxedHeirsModel", "lessBy", "(II)I"⟩ ∈ TB := TB_in (List.mem_of_getElem? (i := 1088) (by decide +kernel)) rfl
theorem wk_1089 : Cond.code ⟨"BoxedHeirsModel", "lessBy", "(II)I"⟩ prog_12_method_26_code 3 (some .int) ∈ TB := TB_in (List.mem_of_getElem? (i := 1089) (by decide +kernel)) rfl
theorem wk_1090 : Cond.methodLink "BoxedHeirsModel" 191 ⟨"BoxedHeirsModel", "has", "(II)Z"⟩ ∈ TB := TB_in (List.mem_of_getElem? (i := 1090) (by decide +kernel)) rfl
theorem wk_1091 : Cond.static ⟨"BoxedHeirsModel", "has", "(II)Z"⟩ ∈ TB := TB_in (List.mem_of_getElem? (i := 1091) (by decide +kernel)) rfl
theorem wk_1092 : Cond.code ⟨"BoxedHeirsModel", "has", "(II)Z"⟩ prog_12_method_4_code 2 (some .boolean) ∈ TB := TB_in (List.mem_of_getElem? (i := 1092) (by decide +kernel)) rfl
theorem wk_1093 : Cond.methodLink "BoxedHeirsModel" 195 ⟨"BoxedHeirsModel", "depthOf", "(I)I"⟩ ∈ TB := TB_in (List.mem_of_getElem? (i := 1093) (by decide +kernel)) rfl
theorem wk_1095 : Cond.instanceMethod ⟨"BoxedHeirsModel", "depthOf", "(I)I"⟩ ∈ TB := TB_in (List.mem_of_getElem? (i := 1095) (by decide +kernel)) rfl
theorem wk_1096 : Cond.code ⟨"BoxedHeirsModel", "depthOf", "(I)I"⟩ prog_12_method_24_code 4 (some .int) ∈ TB := TB_in (List.mem_of_getElem? (i := 1096) (by decide +kernel)) rfl
theorem wk_1097 : Cond.methodLink "BoxedHeirsModel" 230 ⟨"BoxedHeirsModel", "end", "()I"⟩ ∈ TB := TB_in (List.mem_of_getElem? (i := 1097) (by decide +kernel)) rfl
theorem wk_1099 : Cond.instanceMethod ⟨"BoxedHeirsModel", "end", "()I"⟩ ∈ TB := TB_in (List.mem_of_getElem? (i := 1099) (by decide +kernel)) rfl
theorem wk_1100 : Cond.code ⟨"BoxedHeirsModel", "end", "()I"⟩ prog_12_method_37_code 4 (some .int) ∈ TB := TB_in (List.mem_of_getElem? (i := 1100) (by decide +kernel)) rfl
theorem wk_1105 : Cond.methodLink "BoxedHeirsModel" 103 ⟨"BoxedHeirsModel", "isBox", "(I)Z"⟩ ∈ TB := TB_in (List.mem_of_getElem? (i := 1105) (by decide +kernel)) rfl
theorem wk_1107 : Cond.instanceMethod ⟨"BoxedHeirsModel", "isBox", "(I)Z"⟩ ∈ TB := TB_in (List.mem_of_getElem? (i := 1107) (by decide +kernel)) rfl
theorem wk_1108 : Cond.code ⟨"BoxedHeirsModel", "isBox", "(I)Z"⟩ prog_12_method_6_code 2 (some .boolean) ∈ TB := TB_in (List.mem_of_getElem? (i := 1108) (by decide +kernel)) rfl
theorem wk_1109 : Cond.constant "BoxedHeirsModel" 233 (-1000000001) ∈ TB := TB_in (List.mem_of_getElem? (i := 1109) (by decide +kernel)) rfl
theorem wk_1110 : Cond.methodLink "BoxedHeirsModel" 214 ⟨"BoxedHeirsModel", "isUp", "(I)Z"⟩ ∈ TB := TB_in (List.mem_of_getElem? (i := 1110) (by decide +kernel)) rfl
theorem wk_1112 : Cond.instanceMethod ⟨"BoxedHeirsModel", "isUp", "(I)Z"⟩ ∈ TB := TB_in (List.mem_of_getElem? (i := 1112) (by decide +kernel)) rfl
theorem wk_1113 : Cond.code ⟨"BoxedHeirsModel", "isUp", "(I)Z"⟩ prog_12_method_31_code 2 (some .boolean) ∈ TB := TB_in (List.mem_of_getElem? (i := 1113) (by decide +kernel)) rfl
theorem wk_1114 : Cond.methodLink "BoxedHeirsModel" 234 ⟨"BoxedHeirsModel", "dynastyOf", "(I)I"⟩ ∈ TB := TB_in (List.mem_of_getElem? (i := 1114) (by decide +kernel)) rfl
theorem wk_1116 : Cond.instanceMethod ⟨"BoxedHeirsModel", "dynastyOf", "(I)I"⟩ ∈ TB := TB_in (List.mem_of_getElem? (i := 1116) (by decide +kernel)) rfl
theorem wk_1117 : Cond.code ⟨"BoxedHeirsModel", "dynastyOf", "(I)I"⟩ prog_12_method_25_code 4 (some .int) ∈ TB := TB_in (List.mem_of_getElem? (i := 1117) (by decide +kernel)) rfl
theorem wk_1122 : Cond.methodLink "BoxedHeirsModel" 237 ⟨"BoxedHeirsModel", "isRegent", "(I)Z"⟩ ∈ TB := TB_in (List.mem_of_getElem? (i := 1122) (by decide +kernel)) rfl
theorem wk_1124 : Cond.instanceMethod ⟨"BoxedHeirsModel", "isRegent", "(I)Z"⟩ ∈ TB := TB_in (List.mem_of_getElem? (i := 1124) (by decide +kernel)) rfl
theorem wk_1125 : Cond.code ⟨"BoxedHeirsModel", "isRegent", "(I)Z"⟩ prog_12_method_7_code 2 (some .boolean) ∈ TB := TB_in (List.mem_of_getElem? (i := 1125) (by decide +kernel)) rfl
theorem wk_1130 : Cond.constantLong "BoxedHeirsModel" 240 (400) ∈ TB := TB_in (List.mem_of_getElem? (i := 1130) (by decide +kernel)) rfl
theorem wk_1131 : Cond.constant "BoxedHeirsModel" 242 (-1000000003) ∈ TB := TB_in (List.mem_of_getElem? (i := 1131) (by decide +kernel)) rfl
theorem wk_1132 : Cond.constant "BoxedHeirsModel" 243 (99999) ∈ TB := TB_in (List.mem_of_getElem? (i := 1132) (by decide +kernel)) rfl
theorem wk_1133 : Cond.methodLink "BoxedHeirsModel" 244 ⟨"BoxedHeirsModel", "remember", "()V"⟩ ∈ TB := TB_in (List.mem_of_getElem? (i := 1133) (by decide +kernel)) rfl
theorem wk_1135 : Cond.instanceMethod ⟨"BoxedHeirsModel", "remember", "()V"⟩ ∈ TB := TB_in (List.mem_of_getElem? (i := 1135) (by decide +kernel)) rfl
theorem wk_1136 : Cond.code ⟨"BoxedHeirsModel", "remember", "()V"⟩ prog_12_method_41_code 2 none ∈ TB := TB_in (List.mem_of_getElem? (i := 1136) (by decide +kernel)) rfl
theorem wk_1137 : Cond.methodLink "BoxedHeirsModel" 247 ⟨"BoxedHeirsModel", "pass", "()V"⟩ ∈ TB := TB_in (List.mem_of_getElem? (i := 1137) (by decide +kernel)) rfl
theorem wk_1139 : Cond.instanceMethod ⟨"BoxedHeirsModel", "pass", "()V"⟩ ∈ TB := TB_in (List.mem_of_getElem? (i := 1139) (by decide +kernel)) rfl
theorem wk_1140 : Cond.code ⟨"BoxedHeirsModel", "pass", "()V"⟩ prog_12_method_34_code 4 none ∈ TB := TB_in (List.mem_of_getElem? (i := 1140) (by decide +kernel)) rfl
theorem wk_1141 : Cond.methodLink "BoxedHeirsModel" 221 ⟨"BoxedHeirsModel", "turn", "(I)Z"⟩ ∈ TB := TB_in (List.mem_of_getElem? (i := 1141) (by decide +kernel)) rfl
theorem wk_1143 : Cond.instanceMethod ⟨"BoxedHeirsModel", "turn", "(I)Z"⟩ ∈ TB := TB_in (List.mem_of_getElem? (i := 1143) (by decide +kernel)) rfl
theorem wk_1144 : Cond.code ⟨"BoxedHeirsModel", "turn", "(I)Z"⟩ prog_12_method_33_code 2 (some .boolean) ∈ TB := TB_in (List.mem_of_getElem? (i := 1144) (by decide +kernel)) rfl
theorem wk_1145 : Cond.methodLink "BoxedHeirsModel" 217 ⟨"BoxedHeirsModel", "canCome", "(I)Z"⟩ ∈ TB := TB_in (List.mem_of_getElem? (i := 1145) (by decide +kernel)) rfl
theorem wk_1147 : Cond.instanceMethod ⟨"BoxedHeirsModel", "canCome", "(I)Z"⟩ ∈ TB := TB_in (List.mem_of_getElem? (i := 1147) (by decide +kernel)) rfl
theorem wk_1148 : Cond.code ⟨"BoxedHeirsModel", "canCome", "(I)Z"⟩ prog_12_method_32_code 2 (some .boolean) ∈ TB := TB_in (List.mem_of_getElem? (i := 1148) (by decide +kernel)) rfl
theorem wk_1149 : Cond.constant "BoxedHeirsModel" 220 (999999) ∈ TB := TB_in (List.mem_of_getElem? (i := 1149) (by decide +kernel)) rfl
theorem wk_1150 : Cond.methodLink "BoxedHeirsModel" 250 ⟨"BoxedHeirsModel", "bits", "(I)I"⟩ ∈ TB := TB_in (List.mem_of_getElem? (i := 1150) (by decide +kernel)) rfl
theorem wk_1151 : Cond.static ⟨"BoxedHeirsModel", "bits", "(I)I"⟩ ∈ TB := TB_in (List.mem_of_getElem? (i := 1151) (by decide +kernel)) rfl
theorem wk_1152 : Cond.code ⟨"BoxedHeirsModel", "bits", "(I)I"⟩ prog_12_method_5_code 3 (some .int) ∈ TB := TB_in (List.mem_of_getElem? (i := 1152) (by decide +kernel)) rfl
theorem wk_1157 : Cond.constantLong "BoxedHeirsModel" 253 (60) ∈ TB := TB_in (List.mem_of_getElem? (i := 1157) (by decide +kernel)) rfl
theorem wk_1170 : Cond.methodLink "BoxedHeirsModel" 255 ⟨"BoxedHeirsModel", "pushNow", "(I)I"⟩ ∈ TB := TB_in (List.mem_of_getElem? (i := 1170) (by decide +kernel)) rfl
theorem wk_1172 : Cond.instanceMethod ⟨"BoxedHeirsModel", "pushNow", "(I)I"⟩ ∈ TB := TB_in (List.mem_of_getElem? (i := 1172) (by decide +kernel)) rfl
theorem wk_1173 : Cond.code ⟨"BoxedHeirsModel", "pushNow", "(I)I"⟩ prog_12_method_46_code 4 (some .int) ∈ TB := TB_in (List.mem_of_getElem? (i := 1173) (by decide +kernel)) rfl
theorem wk_1186 : Cond.methodLink "BoxedHeirsModel" 271 ⟨"BoxedHeirsModel", "chance", "()V"⟩ ∈ TB := TB_in (List.mem_of_getElem? (i := 1186) (by decide +kernel)) rfl
theorem wk_1188 : Cond.instanceMethod ⟨"BoxedHeirsModel", "chance", "()V"⟩ ∈ TB := TB_in (List.mem_of_getElem? (i := 1188) (by decide +kernel)) rfl
theorem wk_1189 : Cond.code ⟨"BoxedHeirsModel", "chance", "()V"⟩ prog_12_method_51_code 5 none ∈ TB := TB_in (List.mem_of_getElem? (i := 1189) (by decide +kernel)) rfl
theorem wk_1190 : Cond.methodLink "BoxedHeirsModel" 268 ⟨"BoxedHeirsModel", "draw", "(I)I"⟩ ∈ TB := TB_in (List.mem_of_getElem? (i := 1190) (by decide +kernel)) rfl
theorem wk_1192 : Cond.instanceMethod ⟨"BoxedHeirsModel", "draw", "(I)I"⟩ ∈ TB := TB_in (List.mem_of_getElem? (i := 1192) (by decide +kernel)) rfl
theorem wk_1193 : Cond.code ⟨"BoxedHeirsModel", "draw", "(I)I"⟩ prog_12_method_50_code 2 (some .int) ∈ TB := TB_in (List.mem_of_getElem? (i := 1193) (by decide +kernel)) rfl
theorem wk_1194 : Cond.constantLong "BoxedHeirsModel" 261 (1103515245) ∈ TB := TB_in (List.mem_of_getElem? (i := 1194) (by decide +kernel)) rfl
theorem wk_1195 : Cond.constantLong "BoxedHeirsModel" 263 (12345) ∈ TB := TB_in (List.mem_of_getElem? (i := 1195) (by decide +kernel)) rfl
theorem wk_1196 : Cond.constantLong "BoxedHeirsModel" 265 (2147483648) ∈ TB := TB_in (List.mem_of_getElem? (i := 1196) (by decide +kernel)) rfl
theorem wk_1197 : Cond.constant "BoxedHeirsModel" 267 (65536) ∈ TB := TB_in (List.mem_of_getElem? (i := 1197) (by decide +kernel)) rfl
theorem wk_1214 : Cond.methodLink "BoxedHeirsModel" 274 ⟨"BoxedHeirsModel", "areTwo", "(II)Z"⟩ ∈ TB := TB_in (List.mem_of_getElem? (i := 1214) (by decide +kernel)) rfl
theorem wk_1216 : Cond.instanceMethod ⟨"BoxedHeirsModel", "areTwo", "(II)Z"⟩ ∈ TB := TB_in (List.mem_of_getElem? (i := 1216) (by decide +kernel)) rfl
theorem wk_1217 : Cond.code ⟨"BoxedHeirsModel", "areTwo", "(II)Z"⟩ prog_12_method_8_code 3 (some .boolean) ∈ TB := TB_in (List.mem_of_getElem? (i := 1217) (by decide +kernel)) rfl
theorem wk_1218 : Cond.methodLink "BoxedHeirsModel" 277 ⟨"BoxedHeirsModel", "isCatch", "(III)Z"⟩ ∈ TB := TB_in (List.mem_of_getElem? (i := 1218) (by decide +kernel)) rfl
theorem wk_1220 : Cond.instanceMethod ⟨"BoxedHeirsModel", "isCatch", "(III)Z"⟩ ∈ TB := TB_in (List.mem_of_getElem? (i := 1220) (by decide +kernel)) rfl
theorem wk_1221 : Cond.code ⟨"BoxedHeirsModel", "isCatch", "(III)Z"⟩ prog_12_method_56_code 4 (some .boolean) ∈ TB := TB_in (List.mem_of_getElem? (i := 1221) (by decide +kernel)) rfl
theorem wk_1226 : Cond.methodLink "BoxedHeirsModel" 281 ⟨"BoxedHeirsModel", "nextOf", "(II)I"⟩ ∈ TB := TB_in (List.mem_of_getElem? (i := 1226) (by decide +kernel)) rfl
theorem wk_1228 : Cond.instanceMethod ⟨"BoxedHeirsModel", "nextOf", "(II)I"⟩ ∈ TB := TB_in (List.mem_of_getElem? (i := 1228) (by decide +kernel)) rfl
theorem wk_1229 : Cond.code ⟨"BoxedHeirsModel", "nextOf", "(II)I"⟩ prog_12_method_58_code 4 (some .int) ∈ TB := TB_in (List.mem_of_getElem? (i := 1229) (by decide +kernel)) rfl
theorem wk_1234 : Cond.constantLong "BoxedHeirsModel" 288 (2) ∈ TB := TB_in (List.mem_of_getElem? (i := 1234) (by decide +kernel)) rfl
theorem wk_1235 : Cond.constantLong "BoxedHeirsModel" 290 (4) ∈ TB := TB_in (List.mem_of_getElem? (i := 1235) (by decide +kernel)) rfl
theorem wk_1236 : Cond.methodLink "BoxedHeirsModel" 292 ⟨"BoxedHeirsModel", "findMeets", "(I)V"⟩ ∈ TB := TB_in (List.mem_of_getElem? (i := 1236) (by decide +kernel)) rfl
theorem wk_1238 : Cond.instanceMethod ⟨"BoxedHeirsModel", "findMeets", "(I)V"⟩ ∈ TB := TB_in (List.mem_of_getElem? (i := 1238) (by decide +kernel)) rfl
theorem wk_1239 : Cond.code ⟨"BoxedHeirsModel", "findMeets", "(I)V"⟩ prog_12_method_60_code 7 none ∈ TB := TB_in (List.mem_of_getElem? (i := 1239) (by decide +kernel)) rfl
theorem wk_1240 : Cond.constant "BoxedHeirsModel" 296 (1000000) ∈ TB := TB_in (List.mem_of_getElem? (i := 1240) (by decide +kernel)) rfl
theorem wk_1241 : Cond.methodLink "BoxedHeirsModel" 297 ⟨"BoxedHeirsModel", "sumOf", "(I)I"⟩ ∈ TB := TB_in (List.mem_of_getElem? (i := 1241) (by decide +kernel)) rfl
theorem wk_1242 : Cond.static ⟨"BoxedHeirsModel", "sumOf", "(I)I"⟩ ∈ TB := TB_in (List.mem_of_getElem? (i := 1242) (by decide +kernel)) rfl
theorem wk_1243 : Cond.code ⟨"BoxedHeirsModel", "sumOf", "(I)I"⟩ prog_12_method_63_code 3 (some .int) ∈ TB := TB_in (List.mem_of_getElem? (i := 1243) (by decide +kernel)) rfl
theorem wk_1244 : Cond.methodLink "BoxedHeirsModel" 300 ⟨"BoxedHeirsModel", "isApart", "(II)Z"⟩ ∈ TB := TB_in (List.mem_of_getElem? (i := 1244) (by decide +kernel)) rfl
theorem wk_1246 : Cond.instanceMethod ⟨"BoxedHeirsModel", "isApart", "(II)Z"⟩ ∈ TB := TB_in (List.mem_of_getElem? (i := 1246) (by decide +kernel)) rfl
theorem wk_1247 : Cond.code ⟨"BoxedHeirsModel", "isApart", "(II)Z"⟩ prog_12_method_62_code 6 (some .boolean) ∈ TB := TB_in (List.mem_of_getElem? (i := 1247) (by decide +kernel)) rfl
theorem wk_1248 : Cond.methodLink "BoxedHeirsModel" 284 ⟨"BoxedHeirsModel", "figure", "(III)I"⟩ ∈ TB := TB_in (List.mem_of_getElem? (i := 1248) (by decide +kernel)) rfl
theorem wk_1249 : Cond.static ⟨"BoxedHeirsModel", "figure", "(III)I"⟩ ∈ TB := TB_in (List.mem_of_getElem? (i := 1249) (by decide +kernel)) rfl
theorem wk_1250 : Cond.code ⟨"BoxedHeirsModel", "figure", "(III)I"⟩ prog_12_method_61_code 5 (some .int) ∈ TB := TB_in (List.mem_of_getElem? (i := 1250) (by decide +kernel)) rfl
theorem wk_1259 : Cond.methodLink "BoxedHeirsModel" 306 ⟨"BoxedHeirsModel", "findHeld", "()V"⟩ ∈ TB := TB_in (List.mem_of_getElem? (i := 1259) (by decide +kernel)) rfl
theorem wk_1261 : Cond.instanceMethod ⟨"BoxedHeirsModel", "findHeld", "()V"⟩ ∈ TB := TB_in (List.mem_of_getElem? (i := 1261) (by decide +kernel)) rfl
theorem wk_1262 : Cond.code ⟨"BoxedHeirsModel", "findHeld", "()V"⟩ prog_12_method_67_code 6 none ∈ TB := TB_in (List.mem_of_getElem? (i := 1262) (by decide +kernel)) rfl
theorem wk_1263 : Cond.methodLink "BoxedHeirsModel" 303 ⟨"BoxedHeirsModel", "couldHold", "(II)Z"⟩ ∈ TB := TB_in (List.mem_of_getElem? (i := 1263) (by decide +kernel)) rfl
theorem wk_1265 : Cond.instanceMethod ⟨"BoxedHeirsModel", "couldHold", "(II)Z"⟩ ∈ TB := TB_in (List.mem_of_getElem? (i := 1265) (by decide +kernel)) rfl
theorem wk_1266 : Cond.code ⟨"BoxedHeirsModel", "couldHold", "(II)Z"⟩ prog_12_method_66_code 3 (some .boolean) ∈ TB := TB_in (List.mem_of_getElem? (i := 1266) (by decide +kernel)) rfl
theorem wk_1267 : Cond.methodLink "BoxedHeirsModel" 309 ⟨"BoxedHeirsModel", "whoHolds", "(II)I"⟩ ∈ TB := TB_in (List.mem_of_getElem? (i := 1267) (by decide +kernel)) rfl
theorem wk_1269 : Cond.instanceMethod ⟨"BoxedHeirsModel", "whoHolds", "(II)I"⟩ ∈ TB := TB_in (List.mem_of_getElem? (i := 1269) (by decide +kernel)) rfl
theorem wk_1270 : Cond.code ⟨"BoxedHeirsModel", "whoHolds", "(II)I"⟩ prog_12_method_68_code 5 (some .int) ∈ TB := TB_in (List.mem_of_getElem? (i := 1270) (by decide +kernel)) rfl
theorem wk_1279 : Cond.constantLong "BoxedHeirsModel" 312 (99999) ∈ TB := TB_in (List.mem_of_getElem? (i := 1279) (by decide +kernel)) rfl
theorem wk_1284 : Cond.constantLong "BoxedHeirsModel" 314 (100) ∈ TB := TB_in (List.mem_of_getElem? (i := 1284) (by decide +kernel)) rfl
theorem wk_1285 : Cond.constantLong "BoxedHeirsModel" 316 (1000000000) ∈ TB := TB_in (List.mem_of_getElem? (i := 1285) (by decide +kernel)) rfl
theorem wk_1290 : Cond.constantLong "BoxedHeirsModel" 318 (29) ∈ TB := TB_in (List.mem_of_getElem? (i := 1290) (by decide +kernel)) rfl
theorem wk_1295 : Cond.constantLong "BoxedHeirsModel" 323 (30) ∈ TB := TB_in (List.mem_of_getElem? (i := 1295) (by decide +kernel)) rfl
theorem wk_1296 : Cond.methodLink "BoxedHeirsModel" 325 ⟨"BoxedHeirsModel", "catchesOf", "(I)I"⟩ ∈ TB := TB_in (List.mem_of_getElem? (i := 1296) (by decide +kernel)) rfl
theorem wk_1298 : Cond.instanceMethod ⟨"BoxedHeirsModel", "catchesOf", "(I)I"⟩ ∈ TB := TB_in (List.mem_of_getElem? (i := 1298) (by decide +kernel)) rfl
theorem wk_1299 : Cond.code ⟨"BoxedHeirsModel", "catchesOf", "(I)I"⟩ prog_12_method_75_code 6 (some .int) ∈ TB := TB_in (List.mem_of_getElem? (i := 1299) (by decide +kernel)) rfl
theorem wk_1300 : Cond.methodLink "BoxedHeirsModel" 320 ⟨"BoxedHeirsModel", "lifts", "(III)Z"⟩ ∈ TB := TB_in (List.mem_of_getElem? (i := 1300) (by decide +kernel)) rfl
theorem wk_1301 : Cond.static ⟨"BoxedHeirsModel", "lifts", "(III)Z"⟩ ∈ TB := TB_in (List.mem_of_getElem? (i := 1301) (by decide +kernel)) rfl
theorem wk_1302 : Cond.code ⟨"BoxedHeirsModel", "lifts", "(III)Z"⟩ prog_12_method_74_code 3 (some .boolean) ∈ TB := TB_in (List.mem_of_getElem? (i := 1302) (by decide +kernel)) rfl
theorem wk_1311 : Cond.constantLong "BoxedHeirsModel" 328 (59) ∈ TB := TB_in (List.mem_of_getElem? (i := 1311) (by decide +kernel)) rfl
theorem vk_X1_21 {mt : Mt} (h : mt.1.cls = "BoxedHeirs$Forecast") : vOk mt 21 3 1 mX1_firstUp := ⟨⟨_, _, rfl⟩, by rw [h]; exact wk_649, wk_650, wk_651, wk_55, wk_652, by decide +kernel, by decide⟩
theorem vk_X1_25 {mt : Mt} (h : mt.1.cls = "BoxedHeirs$Forecast") : vOk mt 25 1 7 mX7_isUp := ⟨⟨_, _, rfl⟩, by rw [h]; exact wk_653, wk_496, wk_497, wk_50, wk_498, by decide +kernel, by decide⟩
theorem vk_X1_40 {mt : Mt} (h : mt.1.cls = "BoxedHeirs$Forecast") : vOk mt 40 1 7 mX7_at := ⟨⟨_, _, rfl⟩, by rw [h]; exact wk_655, wk_477, wk_478, wk_50, wk_479, by decide +kernel, by decide⟩
theorem vk_X1_44 {mt : Mt} (h : mt.1.cls = "BoxedHeirs$Forecast") : vOk mt 44 2 6 mX6_nextCatch := ⟨⟨_, _, rfl⟩, by rw [h]; exact wk_656, wk_657, wk_658, wk_49, wk_659, by decide +kernel, by decide⟩
theorem vk_X1_47 {mt : Mt} (h : mt.1.cls = "BoxedHeirs$Forecast") : vOk mt 47 3 7 mX7_rustBehind := ⟨⟨_, _, rfl⟩, by rw [h]; exact wk_660, wk_661, wk_662, wk_50, wk_663, by decide +kernel, by decide⟩
theorem vk_X1_51 {mt : Mt} (h : mt.1.cls = "BoxedHeirs$Forecast") : vOk mt 51 1 7 mX7_isDamp := ⟨⟨_, _, rfl⟩, by rw [h]; exact wk_665, wk_438, wk_439, wk_50, wk_440, by decide +kernel, by decide⟩
theorem vk_X1_54 {mt : Mt} (h : mt.1.cls = "BoxedHeirs$Forecast") : vOk mt 54 3 6 mX6_forceOf := ⟨⟨_, _, rfl⟩, by rw [h]; exact wk_666, wk_442, wk_443, wk_49, wk_444, by decide +kernel, by decide⟩
theorem vk_X1_58 {mt : Mt} (h : mt.1.cls = "BoxedHeirs$Forecast") : vOk mt 58 3 7 mX7_isHeldAgainst := ⟨⟨_, _, rfl⟩, by rw [h]; exact wk_667, wk_453, wk_454, wk_50, wk_455, by decide +kernel, by decide⟩
theorem vk_X1_62 {mt : Mt} (h : mt.1.cls = "BoxedHeirs$Forecast") : vOk mt 62 3 1 mX1_firstOfTheRest := ⟨⟨_, _, rfl⟩, by rw [h]; exact wk_676, wk_677, wk_678, wk_55, wk_679, by decide +kernel, by decide⟩
theorem vk_X2_23 {mt : Mt} (h : mt.1.cls = "BoxedHeirs$Ledger") : vOk mt 23 1 7 mX7_at := ⟨⟨_, _, rfl⟩, by rw [h]; exact wk_828, wk_477, wk_478, wk_50, wk_479, by decide +kernel, by decide⟩
theorem vk_X4_27 {mt : Mt} (h : mt.1.cls = "BoxedHeirs$Posting") : vOk mt 27 2 7 mX7_forceOf := ⟨⟨_, _, rfl⟩, by rw [h]; exact wk_733, wk_430, wk_431, wk_50, wk_432, by decide +kernel, by decide⟩
theorem vk_X4_33 {mt : Mt} (h : mt.1.cls = "BoxedHeirs$Posting") : vOk mt 33 4 4 mX4_mostFrom := ⟨⟨_, _, rfl⟩, by rw [h]; exact wk_734, wk_735, wk_736, wk_56, wk_737, by decide +kernel, by decide⟩
theorem vk_X4_37 {mt : Mt} (h : mt.1.cls = "BoxedHeirs$Posting") : vOk mt 37 4 4 mX4_firstHolder := ⟨⟨_, _, rfl⟩, by rw [h]; exact wk_743, wk_744, wk_745, wk_56, wk_746, by decide +kernel, by decide⟩
theorem vk_X4_43 {mt : Mt} (h : mt.1.cls = "BoxedHeirs$Posting") : vOk mt 43 4 4 mX4_mayHold := ⟨⟨_, _, rfl⟩, by rw [h]; exact wk_738, wk_739, wk_740, wk_56, wk_741, by decide +kernel, by decide⟩
theorem vk_X5_30 {mt : Mt} (h : mt.1.cls = "BoxedHeirs$Reader") : vOk mt 30 0 6 mX6_clear := ⟨⟨_, _, rfl⟩, by rw [h]; exact wk_326, wk_327, wk_328, wk_49, wk_329, by decide +kernel, by decide⟩
theorem vk_X5_42 {mt : Mt} (h : mt.1.cls = "BoxedHeirs$Reader") : vOk mt 42 0 5 mX5_skipBlanks := ⟨⟨_, _, rfl⟩, by rw [h]; exact wk_330, wk_331, wk_332, wk_48, wk_333, by decide +kernel, by decide⟩
theorem vk_X5_45 {mt : Mt} (h : mt.1.cls = "BoxedHeirs$Reader") : vOk mt 45 0 5 mX5_readClause := ⟨⟨_, _, rfl⟩, by rw [h]; exact wk_334, wk_335, wk_336, wk_48, wk_337, by decide +kernel, by decide⟩
theorem vk_X5_48 {mt : Mt} (h : mt.1.cls = "BoxedHeirs$Reader") : vOk mt 48 0 6 mX6_exists := ⟨⟨_, _, rfl⟩, by rw [h]; exact wk_338, wk_339, wk_340, wk_49, wk_341, by decide +kernel, by decide⟩
theorem vk_X5_52 {mt : Mt} (h : mt.1.cls = "BoxedHeirs$Reader") : vOk mt 52 2 5 mX5_blame := ⟨⟨_, _, rfl⟩, by rw [h]; exact wk_342, wk_343, wk_344, wk_48, wk_345, by decide +kernel, by decide⟩
theorem vk_X5_56 {mt : Mt} (h : mt.1.cls = "BoxedHeirs$Reader") : vOk mt 56 0 5 mX5_readRust := ⟨⟨_, _, rfl⟩, by rw [h]; exact wk_346, wk_347, wk_348, wk_48, wk_349, by decide +kernel, by decide⟩
theorem vk_X5_59 {mt : Mt} (h : mt.1.cls = "BoxedHeirs$Reader") : vOk mt 59 0 5 mX5_readBox := ⟨⟨_, _, rfl⟩, by rw [h]; exact wk_362, wk_363, wk_364, wk_48, wk_365, by decide +kernel, by decide⟩
theorem vk_X5_62 {mt : Mt} (h : mt.1.cls = "BoxedHeirs$Reader") : vOk mt 62 0 5 mX5_readNesting := ⟨⟨_, _, rfl⟩, by rw [h]; exact wk_370, wk_371, wk_372, wk_48, wk_373, by decide +kernel, by decide⟩
theorem vk_X5_65 {mt : Mt} (h : mt.1.cls = "BoxedHeirs$Reader") : vOk mt 65 0 5 mX5_readRegent := ⟨⟨_, _, rfl⟩, by rw [h]; exact wk_374, wk_375, wk_376, wk_48, wk_377, by decide +kernel, by decide⟩
theorem vk_X5_68 {mt : Mt} (h : mt.1.cls = "BoxedHeirs$Reader") : vOk mt 68 1 5 mX5_opens := ⟨⟨_, _, rfl⟩, by rw [h]; exact wk_350, wk_351, wk_352, wk_48, wk_353, by decide +kernel, by decide⟩
theorem vk_X5_72 {mt : Mt} (h : mt.1.cls = "BoxedHeirs$Reader") : vOk mt 72 2 5 mX5_readNumber := ⟨⟨_, _, rfl⟩, by rw [h]; exact wk_354, wk_355, wk_356, wk_48, wk_357, by decide +kernel, by decide⟩
theorem vk_X5_76 {mt : Mt} (h : mt.1.cls = "BoxedHeirs$Reader") : vOk mt 76 0 5 mX5_closes := ⟨⟨_, _, rfl⟩, by rw [h]; exact wk_358, wk_359, wk_360, wk_48, wk_361, by decide +kernel, by decide⟩
theorem vk_X5_85 {mt : Mt} (h : mt.1.cls = "BoxedHeirs$Reader") : vOk mt 85 4 6 mX6_addBox := ⟨⟨_, _, rfl⟩, by rw [h]; exact wk_366, wk_367, wk_368, wk_49, wk_369, by decide +kernel, by decide⟩
theorem vk_X5_98 {mt : Mt} (h : mt.1.cls = "BoxedHeirs$Reader") : vOk mt 98 1 6 mX6_addRegent := ⟨⟨_, _, rfl⟩, by rw [h]; exact wk_378, wk_379, wk_380, wk_49, wk_381, by decide +kernel, by decide⟩
theorem vk_X6_46 {mt : Mt} (h : mt.1.cls = "BoxedHeirs$Realm") : vOk mt 46 1 6 mX6_depthOf := ⟨⟨_, _, rfl⟩, by rw [h]; exact wk_445, wk_446, wk_447, wk_49, wk_448, by decide +kernel, by decide⟩
theorem vk_X6_56 {mt : Mt} (h : mt.1.cls = "BoxedHeirs$Realm") : vOk mt 56 2 6 mX6_nextCatch := ⟨⟨_, _, rfl⟩, by rw [h]; exact wk_710, wk_657, wk_658, wk_49, wk_659, by decide +kernel, by decide⟩
theorem sk_X7_15 {mt : Mt} (h : mt.1.cls = "BoxedHeirs$Scene") : sOk mt 15 1 mJ6_bitCount_0f7a4 := ⟨by rw [h]; exact wk_565, wk_566, wk_60, wk_567, by decide +kernel, by decide⟩
theorem vk_X7_27 {mt : Mt} (h : mt.1.cls = "BoxedHeirs$Scene") : vOk mt 27 2 7 mX7_forceOf := ⟨⟨_, _, rfl⟩, by rw [h]; exact wk_429, wk_430, wk_431, wk_50, wk_432, by decide +kernel, by decide⟩
theorem vk_X7_31 {mt : Mt} (h : mt.1.cls = "BoxedHeirs$Scene") : vOk mt 31 3 7 mX7_isHeldAgainst := ⟨⟨_, _, rfl⟩, by rw [h]; exact wk_452, wk_453, wk_454, wk_50, wk_455, by decide +kernel, by decide⟩
theorem vk_X7_35 {mt : Mt} (h : mt.1.cls = "BoxedHeirs$Scene") : vOk mt 35 1 7 mX7_rustOf := ⟨⟨_, _, rfl⟩, by rw [h]; exact wk_433, wk_434, wk_435, wk_50, wk_436, by decide +kernel, by decide⟩
theorem vk_X7_38 {mt : Mt} (h : mt.1.cls = "BoxedHeirs$Scene") : vOk mt 38 1 7 mX7_isDamp := ⟨⟨_, _, rfl⟩, by rw [h]; exact wk_437, wk_438, wk_439, wk_50, wk_440, by decide +kernel, by decide⟩
theorem vk_X7_42 {mt : Mt} (h : mt.1.cls = "BoxedHeirs$Scene") : vOk mt 42 3 6 mX6_forceOf := ⟨⟨_, _, rfl⟩, by rw [h]; exact wk_441, wk_442, wk_443, wk_49, wk_444, by decide +kernel, by decide⟩
theorem vk_X7_54 {mt : Mt} (h : mt.1.cls = "BoxedHeirs$Scene") : vOk mt 54 0 7 mX7_bars := ⟨⟨_, _, rfl⟩, by rw [h]; exact wk_664, wk_414, wk_415, wk_50, wk_416, by decide +kernel, by decide⟩
theorem vk_X7_67 {mt : Mt} (h : mt.1.cls = "BoxedHeirs$Scene") : vOk mt 67 2 7 mX7_weightOn := ⟨⟨_, _, rfl⟩, by rw [h]; exact wk_456, wk_457, wk_458, wk_50, wk_459, by decide +kernel, by decide⟩
theorem vk_X7_73 {mt : Mt} (h : mt.1.cls = "BoxedHeirs$Scene") : vOk mt 73 1 7 mX7_isUp := ⟨⟨_, _, rfl⟩, by rw [h]; exact wk_549, wk_496, wk_497, wk_50, wk_498, by decide +kernel, by decide⟩
theorem vk_X7_82 {mt : Mt} (h : mt.1.cls = "BoxedHeirs$Scene") : vOk mt 82 2 7 mX7_isOuterUp := ⟨⟨_, _, rfl⟩, by rw [h]; exact wk_551, wk_552, wk_553, wk_50, wk_554, by decide +kernel, by decide⟩
theorem vk_X7_87 {mt : Mt} (h : mt.1.cls = "BoxedHeirs$Scene") : vOk mt 87 2 7 mX7_turnBox := ⟨⟨_, _, rfl⟩, by rw [h]; exact wk_545, wk_546, wk_547, wk_50, wk_548, by decide +kernel, by decide⟩
theorem vk_X7_90 {mt : Mt} (h : mt.1.cls = "BoxedHeirs$Scene") : vOk mt 90 1 7 mX7_rustAll := ⟨⟨_, _, rfl⟩, by rw [h]; exact wk_557, wk_558, wk_559, wk_50, wk_560, by decide +kernel, by decide⟩
theorem vk_X7_94 {mt : Mt} (h : mt.1.cls = "BoxedHeirs$Scene") : vOk mt 94 1 6 mX6_dynastyOf := ⟨⟨_, _, rfl⟩, by rw [h]; exact wk_596, wk_507, wk_508, wk_49, wk_509, by decide +kernel, by decide⟩
theorem sk_X8_23 {mt : Mt} (h : mt.1.cls = "BoxedHeirs$Sightings") : sOk mt 23 3 mX8_isLiftedAt := ⟨by rw [h]; exact wk_790, wk_791, wk_53, wk_792, by decide +kernel, by decide⟩
theorem vk_X8_27 {mt : Mt} (h : mt.1.cls = "BoxedHeirs$Sightings") : vOk mt 27 2 8 mX8_fits := ⟨⟨_, _, rfl⟩, by rw [h]; exact wk_786, wk_787, wk_788, wk_53, wk_789, by decide +kernel, by decide⟩
theorem vk_X8_31 {mt : Mt} (h : mt.1.cls = "BoxedHeirs$Sightings") : vOk mt 31 1 8 mX8_allThatFit := ⟨⟨_, _, rfl⟩, by rw [h]; exact wk_801, wk_783, wk_784, wk_53, wk_785, by decide +kernel, by decide⟩
theorem sk_X8_35 {mt : Mt} (h : mt.1.cls = "BoxedHeirs$Sightings") : sOk mt 35 1 mJ6_bitCount_0f7a4 := ⟨by rw [h]; exact wk_802, wk_566, wk_60, wk_567, by decide +kernel, by decide⟩
theorem sk_X8_40 {mt : Mt} (h : mt.1.cls = "BoxedHeirs$Sightings") : sOk mt 40 3 mX8_howManyLift := ⟨by rw [h]; exact wk_803, wk_804, wk_53, wk_805, by decide +kernel, by decide⟩
theorem vk_X9_80 {mt : Mt} (h : mt.1.cls = "BoxedHeirs") : vOk mt 80 1 5 mX5_append := ⟨⟨_, _, rfl⟩, by rw [h]; exact wk_313, wk_314, wk_315, wk_48, wk_316, by decide +kernel, by decide⟩
theorem vk_X9_84 {mt : Mt} (h : mt.1.cls = "BoxedHeirs") : vOk mt 84 0 5 mX5_parse := ⟨⟨_, _, rfl⟩, by rw [h]; exact wk_322, wk_323, wk_324, wk_48, wk_325, by decide +kernel, by decide⟩
theorem vk_X9_91 {mt : Mt} (h : mt.1.cls = "BoxedHeirs") : vOk mt 91 1 6 mX6_take := ⟨⟨_, _, rfl⟩, by rw [h]; exact wk_382, wk_383, wk_384, wk_49, wk_385, by decide +kernel, by decide⟩
theorem vk_X9_76 {mt : Mt} (h : mt.1.cls = "BoxedHeirs") : vOk mt 76 0 7 mX7_clear := ⟨⟨_, _, rfl⟩, by rw [h]; exact wk_269, wk_270, wk_271, wk_50, wk_272, by decide +kernel, by decide⟩
theorem vk_X9_95 {mt : Mt} (h : mt.1.cls = "BoxedHeirs") : vOk mt 95 0 3 mX3_forget := ⟨⟨_, _, rfl⟩, by rw [h]; exact wk_389, wk_390, wk_391, wk_51, wk_392, by decide +kernel, by decide⟩
theorem vk_X9_98 {mt : Mt} (h : mt.1.cls = "BoxedHeirs") : vOk mt 98 0 0 mX0_clear := ⟨⟨_, _, rfl⟩, by rw [h]; exact wk_393, wk_394, wk_395, wk_52, wk_396, by decide +kernel, by decide⟩
theorem vk_X9_99 {mt : Mt} (h : mt.1.cls = "BoxedHeirs") : vOk mt 99 0 8 mX8_clear := ⟨⟨_, _, rfl⟩, by rw [h]; exact wk_397, wk_398, wk_399, wk_53, wk_400, by decide +kernel, by decide⟩
theorem vk_X9_100 {mt : Mt} (h : mt.1.cls = "BoxedHeirs") : vOk mt 100 0 2 mX2_clear := ⟨⟨_, _, rfl⟩, by rw [h]; exact wk_401, wk_402, wk_403, wk_54, wk_404, by decide +kernel, by decide⟩
theorem vk_X9_117 {mt : Mt} (h : mt.1.cls = "BoxedHeirs") : vOk mt 117 0 7 mX7_bars := ⟨⟨_, _, rfl⟩, by rw [h]; exact wk_413, wk_414, wk_415, wk_50, wk_416, by decide +kernel, by decide⟩
theorem vk_X9_120 {mt : Mt} (h : mt.1.cls = "BoxedHeirs") : vOk mt 120 0 7 mX7_whoIsUp := ⟨⟨_, _, rfl⟩, by rw [h]; exact wk_417, wk_418, wk_419, wk_50, wk_420, by decide +kernel, by decide⟩
theorem vk_X9_123 {mt : Mt} (h : mt.1.cls = "BoxedHeirs") : vOk mt 123 0 7 mX7_whoSways := ⟨⟨_, _, rfl⟩, by rw [h]; exact wk_421, wk_422, wk_423, wk_50, wk_424, by decide +kernel, by decide⟩
theorem vk_X9_126 {mt : Mt} (h : mt.1.cls = "BoxedHeirs") : vOk mt 126 1 7 mX7_whoIsHeld := ⟨⟨_, _, rfl⟩, by rw [h]; exact wk_425, wk_426, wk_427, wk_50, wk_428, by decide +kernel, by decide⟩
theorem vk_X9_130 {mt : Mt} (h : mt.1.cls = "BoxedHeirs") : vOk mt 130 0 7 mX7_whoIsDamp := ⟨⟨_, _, rfl⟩, by rw [h]; exact wk_460, wk_461, wk_462, wk_50, wk_463, by decide +kernel, by decide⟩
theorem vk_X9_133 {mt : Mt} (h : mt.1.cls = "BoxedHeirs") : vOk mt 133 0 7 mX7_nods := ⟨⟨_, _, rfl⟩, by rw [h]; exact wk_464, wk_465, wk_466, wk_50, wk_467, by decide +kernel, by decide⟩
theorem vk_X9_136 {mt : Mt} (h : mt.1.cls = "BoxedHeirs") : vOk mt 136 0 7 mX7_thuds := ⟨⟨_, _, rfl⟩, by rw [h]; exact wk_468, wk_469, wk_470, wk_50, wk_471, by decide +kernel, by decide⟩
theorem sk_X9_142 {mt : Mt} (h : mt.1.cls = "BoxedHeirs") : sOk mt 142 2 mX9_endOfAll := ⟨by rw [h]; exact wk_472, wk_473, wk_47, wk_474, by decide +kernel, by decide⟩
theorem vk_X9_146 {mt : Mt} (h : mt.1.cls = "BoxedHeirs") : vOk mt 146 1 6 mX6_hasBox := ⟨⟨_, _, rfl⟩, by rw [h]; exact wk_490, wk_491, wk_492, wk_49, wk_493, by decide +kernel, by decide⟩
theorem vk_X9_164 {mt : Mt} (h : mt.1.cls = "BoxedHeirs") : vOk mt 164 1 7 mX7_at := ⟨⟨_, _, rfl⟩, by rw [h]; exact wk_476, wk_477, wk_478, wk_50, wk_479, by decide +kernel, by decide⟩
theorem vk_X9_167 {mt : Mt} (h : mt.1.cls = "BoxedHeirs") : vOk mt 167 1 7 mX7_isUp := ⟨⟨_, _, rfl⟩, by rw [h]; exact wk_495, wk_496, wk_497, wk_50, wk_498, by decide +kernel, by decide⟩
theorem vk_X9_170 {mt : Mt} (h : mt.1.cls = "BoxedHeirs") : vOk mt 170 1 7 mX7_swaysOf := ⟨⟨_, _, rfl⟩, by rw [h]; exact wk_499, wk_500, wk_501, wk_50, wk_502, by decide +kernel, by decide⟩
theorem vk_X9_173 {mt : Mt} (h : mt.1.cls = "BoxedHeirs") : vOk mt 173 1 7 mX7_rustOf := ⟨⟨_, _, rfl⟩, by rw [h]; exact wk_503, wk_434, wk_435, wk_50, wk_436, by decide +kernel, by decide⟩
theorem vk_X9_176 {mt : Mt} (h : mt.1.cls = "BoxedHeirs") : vOk mt 176 2 7 mX7_forceOf := ⟨⟨_, _, rfl⟩, by rw [h]; exact wk_504, wk_430, wk_431, wk_50, wk_432, by decide +kernel, by decide⟩
theorem vk_X9_183 {mt : Mt} (h : mt.1.cls = "BoxedHeirs") : vOk mt 183 1 6 mX6_depthOf := ⟨⟨_, _, rfl⟩, by rw [h]; exact wk_505, wk_446, wk_447, wk_49, wk_448, by decide +kernel, by decide⟩
theorem vk_X9_186 {mt : Mt} (h : mt.1.cls = "BoxedHeirs") : vOk mt 186 1 6 mX6_dynastyOf := ⟨⟨_, _, rfl⟩, by rw [h]; exact wk_506, wk_507, wk_508, wk_49, wk_509, by decide +kernel, by decide⟩
theorem vk_X9_189 {mt : Mt} (h : mt.1.cls = "BoxedHeirs") : vOk mt 189 2 7 mX7_weightOn := ⟨⟨_, _, rfl⟩, by rw [h]; exact wk_510, wk_457, wk_458, wk_50, wk_459, by decide +kernel, by decide⟩
theorem vk_X9_192 {mt : Mt} (h : mt.1.cls = "BoxedHeirs") : vOk mt 192 1 6 mX6_hasRegent := ⟨⟨_, _, rfl⟩, by rw [h]; exact wk_515, wk_516, wk_517, wk_49, wk_518, by decide +kernel, by decide⟩
theorem vk_X9_198 {mt : Mt} (h : mt.1.cls = "BoxedHeirs") : vOk mt 198 1 7 mX7_seatOf := ⟨⟨_, _, rfl⟩, by rw [h]; exact wk_519, wk_520, wk_521, wk_50, wk_522, by decide +kernel, by decide⟩
theorem vk_X9_201 {mt : Mt} (h : mt.1.cls = "BoxedHeirs") : vOk mt 201 2 9 mX9_refusalOfBars := ⟨⟨_, _, rfl⟩, by rw [h]; exact wk_527, wk_529, wk_0, wk_47, wk_530, by decide +kernel, by decide⟩
theorem vk_X9_205 {mt : Mt} (h : mt.1.cls = "BoxedHeirs") : vOk mt 205 1 3 mX3_remember := ⟨⟨_, _, rfl⟩, by rw [h]; exact wk_535, wk_536, wk_537, wk_51, wk_538, by decide +kernel, by decide⟩
theorem vk_X9_209 {mt : Mt} (h : mt.1.cls = "BoxedHeirs") : vOk mt 209 1 7 mX7_passBar := ⟨⟨_, _, rfl⟩, by rw [h]; exact wk_541, wk_542, wk_543, wk_50, wk_544, by decide +kernel, by decide⟩
theorem vk_X9_212 {mt : Mt} (h : mt.1.cls = "BoxedHeirs") : vOk mt 212 0 7 mX7_howManyUp := ⟨⟨_, _, rfl⟩, by rw [h]; exact wk_561, wk_562, wk_563, wk_50, wk_564, by decide +kernel, by decide⟩
theorem vk_X9_215 {mt : Mt} (h : mt.1.cls = "BoxedHeirs") : vOk mt 215 2 7 mX7_turnBox := ⟨⟨_, _, rfl⟩, by rw [h]; exact wk_575, wk_546, wk_547, wk_50, wk_548, by decide +kernel, by decide⟩
theorem vk_X9_220 {mt : Mt} (h : mt.1.cls = "BoxedHeirs") : vOk mt 220 2 7 mX7_seatAt := ⟨⟨_, _, rfl⟩, by rw [h]; exact wk_580, wk_581, wk_582, wk_50, wk_583, by decide +kernel, by decide⟩
theorem vk_X9_224 {mt : Mt} (h : mt.1.cls = "BoxedHeirs") : vOk mt 224 2 7 mX7_pushDown := ⟨⟨_, _, rfl⟩, by rw [h]; exact wk_592, wk_593, wk_594, wk_50, wk_595, by decide +kernel, by decide⟩
theorem vk_X9_227 {mt : Mt} (h : mt.1.cls = "BoxedHeirs") : vOk mt 227 1 7 mX7_takeRustOff := ⟨⟨_, _, rfl⟩, by rw [h]; exact wk_601, wk_602, wk_603, wk_50, wk_604, by decide +kernel, by decide⟩
theorem vk_X9_231 {mt : Mt} (h : mt.1.cls = "BoxedHeirs") : vOk mt 231 1 7 mX7_isDamp := ⟨⟨_, _, rfl⟩, by rw [h]; exact wk_609, wk_438, wk_439, wk_50, wk_440, by decide +kernel, by decide⟩
theorem vk_X9_234 {mt : Mt} (h : mt.1.cls = "BoxedHeirs") : vOk mt 234 2 7 mX7_makeDamp := ⟨⟨_, _, rfl⟩, by rw [h]; exact wk_610, wk_611, wk_612, wk_50, wk_613, by decide +kernel, by decide⟩
theorem vk_X9_238 {mt : Mt} (h : mt.1.cls = "BoxedHeirs") : vOk mt 238 0 9 mX9_meddle := ⟨⟨_, _, rfl⟩, by rw [h]; exact wk_618, wk_620, wk_1, wk_47, wk_621, by decide +kernel, by decide⟩
theorem vk_X9_241 {mt : Mt} (h : mt.1.cls = "BoxedHeirs") : vOk mt 241 1 3 mX3_recall := ⟨⟨_, _, rfl⟩, by rw [h]; exact wk_637, wk_638, wk_639, wk_51, wk_640, by decide +kernel, by decide⟩
theorem vk_X9_244 {mt : Mt} (h : mt.1.cls = "BoxedHeirs") : vOk mt 244 2 1 mX1_fill := ⟨⟨_, _, rfl⟩, by rw [h]; exact wk_645, wk_646, wk_647, wk_55, wk_648, by decide +kernel, by decide⟩
theorem vk_X9_251 {mt : Mt} (h : mt.1.cls = "BoxedHeirs") : vOk mt 251 2 1 mX1_inOrder := ⟨⟨_, _, rfl⟩, by rw [h]; exact wk_672, wk_673, wk_674, wk_55, wk_675, by decide +kernel, by decide⟩
theorem vk_X9_254 {mt : Mt} (h : mt.1.cls = "BoxedHeirs") : vOk mt 254 2 9 mX9_isPairOfBoxes := ⟨⟨_, _, rfl⟩, by rw [h]; exact wk_684, wk_686, wk_3, wk_47, wk_687, by decide +kernel, by decide⟩
theorem vk_X9_258 {mt : Mt} (h : mt.1.cls = "BoxedHeirs") : vOk mt 258 2 6 mX6_nextCatch := ⟨⟨_, _, rfl⟩, by rw [h]; exact wk_688, wk_657, wk_658, wk_49, wk_659, by decide +kernel, by decide⟩
theorem vk_X9_261 {mt : Mt} (h : mt.1.cls = "BoxedHeirs") : vOk mt 261 2 6 mX6_isAtCatch := ⟨⟨_, _, rfl⟩, by rw [h]; exact wk_689, wk_690, wk_691, wk_49, wk_692, by decide +kernel, by decide⟩
theorem sk_X9_264 {mt : Mt} (h : mt.1.cls = "BoxedHeirs") : sOk mt 264 1 mJ6_bitCount_0f7a4 := ⟨by rw [h]; exact wk_701, wk_566, wk_60, wk_567, by decide +kernel, by decide⟩
theorem vk_X9_269 {mt : Mt} (h : mt.1.cls = "BoxedHeirs") : vOk mt 269 2 9 mX9_markCatches := ⟨⟨_, _, rfl⟩, by rw [h]; exact wk_702, wk_704, wk_4, wk_47, wk_705, by decide +kernel, by decide⟩
theorem sk_X9_273 {mt : Mt} (h : mt.1.cls = "BoxedHeirs") : sOk mt 273 5 mX9_leastParting := ⟨by rw [h]; exact wk_712, wk_713, wk_47, wk_714, by decide +kernel, by decide⟩
theorem vk_X9_277 {mt : Mt} (h : mt.1.cls = "BoxedHeirs") : vOk mt 277 0 6 mX6_exists := ⟨⟨_, _, rfl⟩, by rw [h]; exact wk_531, wk_339, wk_340, wk_49, wk_341, by decide +kernel, by decide⟩
theorem vk_X9_281 {mt : Mt} (h : mt.1.cls = "BoxedHeirs") : vOk mt 281 1 9 mX9_isAnyAtCatch := ⟨⟨_, _, rfl⟩, by rw [h]; exact wk_721, wk_723, wk_5, wk_47, wk_724, by decide +kernel, by decide⟩
theorem vk_X9_284 {mt : Mt} (h : mt.1.cls = "BoxedHeirs") : vOk mt 284 2 4 mX4_fill := ⟨⟨_, _, rfl⟩, by rw [h]; exact wk_729, wk_730, wk_731, wk_56, wk_732, by decide +kernel, by decide⟩
theorem vk_X9_285 {mt : Mt} (h : mt.1.cls = "BoxedHeirs") : vOk mt 285 0 4 mX4_howMany := ⟨⟨_, _, rfl⟩, by rw [h]; exact wk_747, wk_748, wk_749, wk_56, wk_750, by decide +kernel, by decide⟩
theorem vk_X9_296 {mt : Mt} (h : mt.1.cls = "BoxedHeirs") : vOk mt 296 3 6 mX6_forceOf := ⟨⟨_, _, rfl⟩, by rw [h]; exact wk_755, wk_442, wk_443, wk_49, wk_444, by decide +kernel, by decide⟩
theorem vk_X9_304 {mt : Mt} (h : mt.1.cls = "BoxedHeirs") : vOk mt 304 2 8 mX8_add := ⟨⟨_, _, rfl⟩, by rw [h]; exact wk_770, wk_771, wk_772, wk_53, wk_773, by decide +kernel, by decide⟩
theorem sk_X9_308 {mt : Mt} (h : mt.1.cls = "BoxedHeirs") : sOk mt 308 1 mX9_isTuneToBeFound := ⟨by rw [h]; exact wk_779, wk_780, wk_47, wk_781, by decide +kernel, by decide⟩
theorem vk_X9_311 {mt : Mt} (h : mt.1.cls = "BoxedHeirs") : vOk mt 311 1 8 mX8_allThatFit := ⟨⟨_, _, rfl⟩, by rw [h]; exact wk_782, wk_783, wk_784, wk_53, wk_785, by decide +kernel, by decide⟩
theorem vk_X9_314 {mt : Mt} (h : mt.1.cls = "BoxedHeirs") : vOk mt 314 1 8 mX8_bestToTry := ⟨⟨_, _, rfl⟩, by rw [h]; exact wk_797, wk_798, wk_799, wk_53, wk_800, by decide +kernel, by decide⟩
theorem vk_X9_317 {mt : Mt} (h : mt.1.cls = "BoxedHeirs") : vOk mt 317 2 2 mX2_add := ⟨⟨_, _, rfl⟩, by rw [h]; exact wk_811, wk_812, wk_813, wk_54, wk_814, by decide +kernel, by decide⟩
theorem vk_X9_319 {mt : Mt} (h : mt.1.cls = "BoxedHeirs") : vOk mt 319 1 2 mX2_firstWrong := ⟨⟨_, _, rfl⟩, by rw [h]; exact wk_824, wk_825, wk_826, wk_54, wk_827, by decide +kernel, by decide⟩
theorem sk_X9_326 {mt : Mt} (h : mt.1.cls = "BoxedHeirs") : sOk mt 326 1 mX9_isImage := ⟨by rw [h]; exact wk_837, wk_838, wk_47, wk_839, by decide +kernel, by decide⟩
theorem vk_X9_329 {mt : Mt} (h : mt.1.cls = "BoxedHeirs") : vOk mt 329 3 0 mX0_put := ⟨⟨_, _, rfl⟩, by rw [h]; exact wk_840, wk_841, wk_842, wk_52, wk_843, by decide +kernel, by decide⟩
theorem vk_X9_333 {mt : Mt} (h : mt.1.cls = "BoxedHeirs") : vOk mt 333 1 0 mX0_has := ⟨⟨_, _, rfl⟩, by rw [h]; exact wk_849, wk_850, wk_851, wk_52, wk_852, by decide +kernel, by decide⟩
theorem vk_X9_336 {mt : Mt} (h : mt.1.cls = "BoxedHeirs") : vOk mt 336 2 0 mX0_show := ⟨⟨_, _, rfl⟩, by rw [h]; exact wk_853, wk_854, wk_855, wk_52, wk_856, by decide +kernel, by decide⟩
theorem vk_X9_344 {mt : Mt} (h : mt.1.cls = "BoxedHeirs") : vOk mt 344 1 9 mX9_drawOf := ⟨⟨_, _, rfl⟩, by rw [h]; exact wk_622, wk_624, wk_2, wk_47, wk_625, by decide +kernel, by decide⟩
theorem vk_X9_347 {mt : Mt} (h : mt.1.cls = "BoxedHeirs") : vOk mt 347 1 7 mX7_turnDampness := ⟨⟨_, _, rfl⟩, by rw [h]; exact wk_629, wk_630, wk_631, wk_50, wk_632, by decide +kernel, by decide⟩
theorem sk_X9_350 {mt : Mt} (h : mt.1.cls = "BoxedHeirs") : sOk mt 350 2 mX9_leastCommonMultiple := ⟨by rw [h]; exact wk_480, wk_481, wk_47, wk_482, by decide +kernel, by decide⟩
theorem vk_X9_356 {mt : Mt} (h : mt.1.cls = "BoxedHeirs") : vOk mt 356 3 6 mX6_catchesWithin := ⟨⟨_, _, rfl⟩, by rw [h]; exact wk_706, wk_707, wk_708, wk_49, wk_709, by decide +kernel, by decide⟩
theorem sk_X10_96 {mt : Mt} (h : mt.1.cls = "BoxedHeirsModel") : sOk mt 96 3 mX10_in := ⟨by rw [h]; exact wk_996, wk_997, wk_57, wk_998, by decide +kernel, by decide⟩
theorem vk_X10_103 {mt : Mt} (h : mt.1.cls = "BoxedHeirsModel") : vOk mt 103 1 10 mX10_isBox := ⟨⟨_, _, rfl⟩, by rw [h]; exact wk_1105, wk_1107, wk_26, wk_57, wk_1108, by decide +kernel, by decide⟩
theorem vk_X10_117 {mt : Mt} (h : mt.1.cls = "BoxedHeirsModel") : vOk mt 117 0 10 mX10_here := ⟨⟨_, _, rfl⟩, by rw [h]; exact wk_1005, wk_1007, wk_6, wk_57, wk_1008, by decide +kernel, by decide⟩
theorem vk_X10_125 {mt : Mt} (h : mt.1.cls = "BoxedHeirsModel") : vOk mt 125 2 10 mX10_fails := ⟨⟨_, _, rfl⟩, by rw [h]; exact wk_1013, wk_1015, wk_8, wk_57, wk_1016, by decide +kernel, by decide⟩
theorem vk_X10_135 {mt : Mt} (h : mt.1.cls = "BoxedHeirsModel") : vOk mt 135 2 10 mX10_takeNumber := ⟨⟨_, _, rfl⟩, by rw [h]; exact wk_1025, wk_1027, wk_11, wk_57, wk_1028, by decide +kernel, by decide⟩
theorem vk_X10_144 {mt : Mt} (h : mt.1.cls = "BoxedHeirsModel") : vOk mt 144 4 10 mX10_into := ⟨⟨_, _, rfl⟩, by rw [h]; exact wk_1035, wk_1037, wk_13, wk_57, wk_1038, by decide +kernel, by decide⟩
theorem vk_X10_154 {mt : Mt} (h : mt.1.cls = "BoxedHeirsModel") : vOk mt 154 1 10 mX10_isFull := ⟨⟨_, _, rfl⟩, by rw [h]; exact wk_1017, wk_1019, wk_9, wk_57, wk_1020, by decide +kernel, by decide⟩
theorem vk_X10_157 {mt : Mt} (h : mt.1.cls = "BoxedHeirsModel") : vOk mt 157 0 10 mX10_takeDuchy := ⟨⟨_, _, rfl⟩, by rw [h]; exact wk_1021, wk_1023, wk_10, wk_57, wk_1024, by decide +kernel, by decide⟩
theorem vk_X10_160 {mt : Mt} (h : mt.1.cls = "BoxedHeirsModel") : vOk mt 160 0 10 mX10_takeBox := ⟨⟨_, _, rfl⟩, by rw [h]; exact wk_1031, wk_1033, wk_12, wk_57, wk_1034, by decide +kernel, by decide⟩
theorem vk_X10_163 {mt : Mt} (h : mt.1.cls = "BoxedHeirsModel") : vOk mt 163 0 10 mX10_takeInside := ⟨⟨_, _, rfl⟩, by rw [h]; exact wk_1039, wk_1041, wk_14, wk_57, wk_1042, by decide +kernel, by decide⟩
theorem vk_X10_166 {mt : Mt} (h : mt.1.cls = "BoxedHeirsModel") : vOk mt 166 0 10 mX10_takeRegent := ⟨⟨_, _, rfl⟩, by rw [h]; exact wk_1043, wk_1045, wk_15, wk_57, wk_1046, by decide +kernel, by decide⟩
theorem sk_X10_172 {mt : Mt} (h : mt.1.cls = "BoxedHeirsModel") : sOk mt 172 3 mX10_copyRow := ⟨by rw [h]; exact wk_1051, wk_1052, wk_57, wk_1053, by decide +kernel, by decide⟩
theorem vk_X10_176 {mt : Mt} (h : mt.1.cls = "BoxedHeirsModel") : vOk mt 176 0 10 mX10_takeClause := ⟨⟨_, _, rfl⟩, by rw [h]; exact wk_1009, wk_1011, wk_7, wk_57, wk_1012, by decide +kernel, by decide⟩
theorem vk_X10_179 {mt : Mt} (h : mt.1.cls = "BoxedHeirsModel") : vOk mt 179 0 10 mX10_takeRead := ⟨⟨_, _, rfl⟩, by rw [h]; exact wk_1047, wk_1049, wk_16, wk_57, wk_1050, by decide +kernel, by decide⟩
theorem sk_X10_191 {mt : Mt} (h : mt.1.cls = "BoxedHeirsModel") : sOk mt 191 2 mX10_has := ⟨by rw [h]; exact wk_1090, wk_1091, wk_57, wk_1092, by decide +kernel, by decide⟩
theorem vk_X10_195 {mt : Mt} (h : mt.1.cls = "BoxedHeirsModel") : vOk mt 195 1 10 mX10_depthOf := ⟨⟨_, _, rfl⟩, by rw [h]; exact wk_1093, wk_1095, wk_24, wk_57, wk_1096, by decide +kernel, by decide⟩
theorem vk_X10_199 {mt : Mt} (h : mt.1.cls = "BoxedHeirsModel") : vOk mt 199 2 10 mX10_lessBy := ⟨⟨_, _, rfl⟩, by rw [h]; exact wk_1086, wk_1088, wk_23, wk_57, wk_1089, by decide +kernel, by decide⟩
theorem vk_X10_202 {mt : Mt} (h : mt.1.cls = "BoxedHeirsModel") : vOk mt 202 2 10 mX10_forceBy := ⟨⟨_, _, rfl⟩, by rw [h]; exact wk_1082, wk_1084, wk_22, wk_57, wk_1085, by decide +kernel, by decide⟩
theorem vk_X10_205 {mt : Mt} (h : mt.1.cls = "BoxedHeirsModel") : vOk mt 205 1 10 mX10_weightsOn := ⟨⟨_, _, rfl⟩, by rw [h]; exact wk_1074, wk_1076, wk_20, wk_57, wk_1077, by decide +kernel, by decide⟩
theorem vk_X10_208 {mt : Mt} (h : mt.1.cls = "BoxedHeirsModel") : vOk mt 208 1 10 mX10_forceOf := ⟨⟨_, _, rfl⟩, by rw [h]; exact wk_1078, wk_1080, wk_21, wk_57, wk_1081, by decide +kernel, by decide⟩
theorem vk_X10_211 {mt : Mt} (h : mt.1.cls = "BoxedHeirsModel") : vOk mt 211 1 10 mX10_isHeld := ⟨⟨_, _, rfl⟩, by rw [h]; exact wk_1070, wk_1072, wk_19, wk_57, wk_1073, by decide +kernel, by decide⟩
theorem vk_X10_214 {mt : Mt} (h : mt.1.cls = "BoxedHeirsModel") : vOk mt 214 1 10 mX10_isUp := ⟨⟨_, _, rfl⟩, by rw [h]; exact wk_1110, wk_1112, wk_27, wk_57, wk_1113, by decide +kernel, by decide⟩
theorem vk_X10_217 {mt : Mt} (h : mt.1.cls = "BoxedHeirsModel") : vOk mt 217 1 10 mX10_canCome := ⟨⟨_, _, rfl⟩, by rw [h]; exact wk_1145, wk_1147, wk_33, wk_57, wk_1148, by decide +kernel, by decide⟩
theorem vk_X10_221 {mt : Mt} (h : mt.1.cls = "BoxedHeirsModel") : vOk mt 221 1 10 mX10_turn := ⟨⟨_, _, rfl⟩, by rw [h]; exact wk_1141, wk_1143, wk_32, wk_57, wk_1144, by decide +kernel, by decide⟩
theorem vk_X10_224 {mt : Mt} (h : mt.1.cls = "BoxedHeirsModel") : vOk mt 224 0 10 mX10_swaying := ⟨⟨_, _, rfl⟩, by rw [h]; exact wk_1062, wk_1064, wk_17, wk_57, wk_1065, by decide +kernel, by decide⟩
theorem vk_X10_227 {mt : Mt} (h : mt.1.cls = "BoxedHeirsModel") : vOk mt 227 0 10 mX10_heldOnes := ⟨⟨_, _, rfl⟩, by rw [h]; exact wk_1066, wk_1068, wk_18, wk_57, wk_1069, by decide +kernel, by decide⟩
theorem vk_X10_230 {mt : Mt} (h : mt.1.cls = "BoxedHeirsModel") : vOk mt 230 0 10 mX10_end := ⟨⟨_, _, rfl⟩, by rw [h]; exact wk_1097, wk_1099, wk_25, wk_57, wk_1100, by decide +kernel, by decide⟩
theorem vk_X10_234 {mt : Mt} (h : mt.1.cls = "BoxedHeirsModel") : vOk mt 234 1 10 mX10_dynastyOf := ⟨⟨_, _, rfl⟩, by rw [h]; exact wk_1114, wk_1116, wk_28, wk_57, wk_1117, by decide +kernel, by decide⟩
theorem vk_X10_237 {mt : Mt} (h : mt.1.cls = "BoxedHeirsModel") : vOk mt 237 1 10 mX10_isRegent := ⟨⟨_, _, rfl⟩, by rw [h]; exact wk_1122, wk_1124, wk_29, wk_57, wk_1125, by decide +kernel, by decide⟩
theorem vk_X10_244 {mt : Mt} (h : mt.1.cls = "BoxedHeirsModel") : vOk mt 244 0 10 mX10_remember := ⟨⟨_, _, rfl⟩, by rw [h]; exact wk_1133, wk_1135, wk_30, wk_57, wk_1136, by decide +kernel, by decide⟩
theorem vk_X10_247 {mt : Mt} (h : mt.1.cls = "BoxedHeirsModel") : vOk mt 247 0 10 mX10_pass := ⟨⟨_, _, rfl⟩, by rw [h]; exact wk_1137, wk_1139, wk_31, wk_57, wk_1140, by decide +kernel, by decide⟩
theorem sk_X10_250 {mt : Mt} (h : mt.1.cls = "BoxedHeirsModel") : sOk mt 250 1 mX10_bits := ⟨by rw [h]; exact wk_1150, wk_1151, wk_57, wk_1152, by decide +kernel, by decide⟩
theorem vk_X10_255 {mt : Mt} (h : mt.1.cls = "BoxedHeirsModel") : vOk mt 255 1 10 mX10_pushNow := ⟨⟨_, _, rfl⟩, by rw [h]; exact wk_1170, wk_1172, wk_34, wk_57, wk_1173, by decide +kernel, by decide⟩
theorem vk_X10_268 {mt : Mt} (h : mt.1.cls = "BoxedHeirsModel") : vOk mt 268 1 10 mX10_draw := ⟨⟨_, _, rfl⟩, by rw [h]; exact wk_1190, wk_1192, wk_36, wk_57, wk_1193, by decide +kernel, by decide⟩
theorem vk_X10_271 {mt : Mt} (h : mt.1.cls = "BoxedHeirsModel") : vOk mt 271 0 10 mX10_chance := ⟨⟨_, _, rfl⟩, by rw [h]; exact wk_1186, wk_1188, wk_35, wk_57, wk_1189, by decide +kernel, by decide⟩
theorem vk_X10_274 {mt : Mt} (h : mt.1.cls = "BoxedHeirsModel") : vOk mt 274 2 10 mX10_areTwo := ⟨⟨_, _, rfl⟩, by rw [h]; exact wk_1214, wk_1216, wk_37, wk_57, wk_1217, by decide +kernel, by decide⟩
theorem vk_X10_277 {mt : Mt} (h : mt.1.cls = "BoxedHeirsModel") : vOk mt 277 3 10 mX10_isCatch := ⟨⟨_, _, rfl⟩, by rw [h]; exact wk_1218, wk_1220, wk_38, wk_57, wk_1221, by decide +kernel, by decide⟩
theorem vk_X10_281 {mt : Mt} (h : mt.1.cls = "BoxedHeirsModel") : vOk mt 281 2 10 mX10_nextOf := ⟨⟨_, _, rfl⟩, by rw [h]; exact wk_1226, wk_1228, wk_39, wk_57, wk_1229, by decide +kernel, by decide⟩
theorem sk_X10_284 {mt : Mt} (h : mt.1.cls = "BoxedHeirsModel") : sOk mt 284 3 mX10_figure := ⟨by rw [h]; exact wk_1248, wk_1249, wk_57, wk_1250, by decide +kernel, by decide⟩
theorem vk_X10_292 {mt : Mt} (h : mt.1.cls = "BoxedHeirsModel") : vOk mt 292 1 10 mX10_findMeets := ⟨⟨_, _, rfl⟩, by rw [h]; exact wk_1236, wk_1238, wk_40, wk_57, wk_1239, by decide +kernel, by decide⟩
theorem sk_X10_297 {mt : Mt} (h : mt.1.cls = "BoxedHeirsModel") : sOk mt 297 1 mX10_sumOf := ⟨by rw [h]; exact wk_1241, wk_1242, wk_57, wk_1243, by decide +kernel, by decide⟩
theorem vk_X10_300 {mt : Mt} (h : mt.1.cls = "BoxedHeirsModel") : vOk mt 300 2 10 mX10_isApart := ⟨⟨_, _, rfl⟩, by rw [h]; exact wk_1244, wk_1246, wk_41, wk_57, wk_1247, by decide +kernel, by decide⟩
theorem vk_X10_303 {mt : Mt} (h : mt.1.cls = "BoxedHeirsModel") : vOk mt 303 2 10 mX10_couldHold := ⟨⟨_, _, rfl⟩, by rw [h]; exact wk_1263, wk_1265, wk_43, wk_57, wk_1266, by decide +kernel, by decide⟩
theorem vk_X10_306 {mt : Mt} (h : mt.1.cls = "BoxedHeirsModel") : vOk mt 306 0 10 mX10_findHeld := ⟨⟨_, _, rfl⟩, by rw [h]; exact wk_1259, wk_1261, wk_42, wk_57, wk_1262, by decide +kernel, by decide⟩
theorem vk_X10_309 {mt : Mt} (h : mt.1.cls = "BoxedHeirsModel") : vOk mt 309 2 10 mX10_whoHolds := ⟨⟨_, _, rfl⟩, by rw [h]; exact wk_1267, wk_1269, wk_44, wk_57, wk_1270, by decide +kernel, by decide⟩
theorem sk_X10_320 {mt : Mt} (h : mt.1.cls = "BoxedHeirsModel") : sOk mt 320 3 mX10_lifts := ⟨by rw [h]; exact wk_1300, wk_1301, wk_57, wk_1302, by decide +kernel, by decide⟩
theorem vk_X10_325 {mt : Mt} (h : mt.1.cls = "BoxedHeirsModel") : vOk mt 325 1 10 mX10_catchesOf := ⟨⟨_, _, rfl⟩, by rw [h]; exact wk_1296, wk_1298, wk_45, wk_57, wk_1299, by decide +kernel, by decide⟩
